/-! Methods as functions, and that they do what these do. -/
/-! M_anyOf (I)Z -/
-- names: 0 StarTalesModel('arg', 0), 1 (0, 14)(0, 12, 21), 2 (0, 14)(0, 12, 23), 3 (0, 14)(0, 12, 24), 4 (0, 220)(0, 12, 20), 5 (0, 220)(0, 12, 25), 6 (0, 13)(0, 12, 26)
-- fields: f0 = 0.clauses_; arrays: g0 = 1, g1 = 2, g2 = 3, g3 = 4, g4 = 5, g5 = 6; out: [('ret', None), ('g', 4)]
abbrev zy_M_anyOf : zNL := (7, [(0, 12)], [(0, 12, 13, 0)], [(0, 12, 21, 1), (0, 12, 23, 2), (0, 12, 24, 3), (0, 12, 20, 4), (0, 12, 25, 5), (0, 12, 26, 6)], [(1, 0, 14, 0), (2, 0, 14, 1), (3, 0, 14, 2), (4, 0, 220, 3), (5, 0, 220, 4), (6, 0, 13, 5)])
theorem zyw_M_anyOf : zv_wf zy_M_anyOf = true := by decide +kernel
theorem zye_M_anyOf : zv_ek2 zy_M_anyOf = true := by decide +kernel
def zf_M_anyOf_l0_b (x1 : Int) (f0 : Int) (g0 : (Int → Int)) (g1 : (Int → Int)) (g2 : (Int → Int)) (g3 : (Int → Int)) (g5 : (Int → Int)) (rec : Int → (Int → Int) → Option ((((Int → Int)) ⊕ (Int × (Int → Int))))) (x2 : Int) (g4 : (Int → Int)) : Option ((((Int → Int)) ⊕ (Int × (Int → Int)))) := if x2 < f0 then (cond (zi_ix x2 14) (if (g0 x2) = x1 then ((zf_M_comesTo (g1 x2) (g2 x2) g3 g4 g5).bind fun r4 => (if r4.1 = 1 then (some (.inr (1, r4.2))) else (rec (zi_w (x2 + 1)) r4.2))) else (rec (zi_w (x2 + 1)) g4)) none) else (some (.inl g4))
def zf_M_anyOf_l0 (x1 : Int) (f0 : Int) (g0 : (Int → Int)) (g1 : (Int → Int)) (g2 : (Int → Int)) (g3 : (Int → Int)) (g5 : (Int → Int)) : Nat → Int → (Int → Int) → Option ((((Int → Int)) ⊕ (Int × (Int → Int))))
  | 0, _, _ => none
  | n + 1, x2, g4 => zf_M_anyOf_l0_b x1 f0 g0 g1 g2 g3 g5 (zf_M_anyOf_l0 x1 f0 g0 g1 g2 g3 g5 n) x2 g4
def zf_M_anyOf (x1 : Int) (f0 : Int) (g0 : (Int → Int)) (g1 : (Int → Int)) (g2 : (Int → Int)) (g3 : (Int → Int)) (g4 : (Int → Int)) (g5 : (Int → Int)) : Option (Int × (Int → Int)) := (zf_M_anyOf_l0 x1 f0 g0 g1 g2 g3 g5 zi_fu 0 g4).bind fun q6 => Sum.elim (fun e7 => (some (0, e7))) (fun w8 => some w8) q6
theorem zd248_0 : decode zxm248.2.1 0 = .ok (.iconst 0, 1) := by decide +kernel
theorem zd248_1 : decode zxm248.2.1 1 = .ok (.istore_n 2, 1) := by decide +kernel
theorem zd248_2 : decode zxm248.2.1 2 = .ok (.iload_n 2, 1) := by decide +kernel
theorem zd248_3 : decode zxm248.2.1 3 = .ok (.aload_n 0, 1) := by decide +kernel
theorem zd248_4 : decode zxm248.2.1 4 = .ok (.getfield 268, 3) := by decide +kernel
theorem zd248_7 : decode zxm248.2.1 7 = .ok (.if_icmp .ge 41, 3) := by decide +kernel
theorem zd248_10 : decode zxm248.2.1 10 = .ok (.aload_n 0, 1) := by decide +kernel
theorem zd248_11 : decode zxm248.2.1 11 = .ok (.getfield 44, 3) := by decide +kernel
theorem zd248_14 : decode zxm248.2.1 14 = .ok (.iload_n 2, 1) := by decide +kernel
theorem zd248_15 : decode zxm248.2.1 15 = .ok (.iaload, 1) := by decide +kernel
theorem zd248_16 : decode zxm248.2.1 16 = .ok (.iload_n 1, 1) := by decide +kernel
theorem zd248_17 : decode zxm248.2.1 17 = .ok (.if_icmp .ne 25, 3) := by decide +kernel
theorem zd248_20 : decode zxm248.2.1 20 = .ok (.aload_n 0, 1) := by decide +kernel
theorem zd248_21 : decode zxm248.2.1 21 = .ok (.aload_n 0, 1) := by decide +kernel
theorem zd248_22 : decode zxm248.2.1 22 = .ok (.getfield 50, 3) := by decide +kernel
theorem zd248_25 : decode zxm248.2.1 25 = .ok (.iload_n 2, 1) := by decide +kernel
theorem zd248_26 : decode zxm248.2.1 26 = .ok (.iaload, 1) := by decide +kernel
theorem zd248_27 : decode zxm248.2.1 27 = .ok (.aload_n 0, 1) := by decide +kernel
theorem zd248_28 : decode zxm248.2.1 28 = .ok (.getfield 53, 3) := by decide +kernel
theorem zd248_31 : decode zxm248.2.1 31 = .ok (.iload_n 2, 1) := by decide +kernel
theorem zd248_32 : decode zxm248.2.1 32 = .ok (.iaload, 1) := by decide +kernel
theorem zd248_33 : decode zxm248.2.1 33 = .ok (.invokevirtual 275, 3) := by decide +kernel
theorem zd248_36 : decode zxm248.2.1 36 = .ok (.iconst 1, 1) := by decide +kernel
theorem zd248_37 : decode zxm248.2.1 37 = .ok (.if_icmp .ne 5, 3) := by decide +kernel
theorem zd248_40 : decode zxm248.2.1 40 = .ok (.iconst 1, 1) := by decide +kernel
theorem zd248_41 : decode zxm248.2.1 41 = .ok (.ireturn, 1) := by decide +kernel
theorem zd248_42 : decode zxm248.2.1 42 = .ok (.iinc 2 1, 3) := by decide +kernel
theorem zd248_45 : decode zxm248.2.1 45 = .ok (.goto (-43), 3) := by decide +kernel
theorem zd248_48 : decode zxm248.2.1 48 = .ok (.iconst 0, 1) := by decide +kernel
theorem zd248_49 : decode zxm248.2.1 49 = .ok (.ireturn, 1) := by decide +kernel
theorem zt_M_anyOf {x1 : Int} {f0 : Int} {g0 : (Int → Int)} {g1 : (Int → Int)} {g2 : (Int → Int)} {g3 : (Int → Int)} {g4 : (Int → Int)} {g5 : (Int → Int)} {o : Int × (Int → Int)} (h : zf_M_anyOf x1 f0 g0 g1 g2 g3 g4 g5 = some o) : zv_Fn z_TB z_cl z_KX zy_M_anyOf zxm248 (2, 120) [.inr 0, .inl x1] [.inl f0] [g0, g1, g2, g3, g4, g5] (some o.1) [.inl f0] [g0, g1, g2, g3, o.2, g5] := zv_meth (K := (z_KF13, z_KC13, z_KL13, z_KT13, [], [], [], none)) (FT := z_FT) (MT := z_MT) (n := 2) zxp248 (z_ks13 _ (fun _ h => List.mem_cons_of_mem _ h) _ _ _ _ (fun j r h _ => by cases h)) (fun _ _ => zs_KX_p) zyw_M_anyOf (fun va F G h => by obtain ⟨rfl, _⟩ := h; rfl) (fun va F G h => by obtain ⟨rfl, _⟩ := h; rfl) rfl fun good va F G hB hret hvret hP => by
  obtain ⟨rfl, rfl, rfl⟩ := hP
  have l0 : ∀ (n : Nat) (x1 : Int) (x2 : Int) (g4 : (Int → Int)) (q : (((Int → Int)) ⊕ (Int × (Int → Int)))), zf_M_anyOf_l0 x1 f0 g0 g1 g2 g3 g5 n x2 g4 = some q → (Sum.elim (fun e : (Int → Int) => good 48 [.inr 1000, .inr 1000, .inr 1000] [] [.inl f0] [g0, g1, g2, g3, e, g5]) (fun w : Int × (Int → Int) => w = o) q) → good 2 [.inr 0, .inl x1, .inl x2] [] [.inl f0] [g0, g1, g2, g3, g4, g5] := by
    intro n
    induction n with
    | zero => intro x1 x2 g4 q h; exact absurd (show none = some q from h) (fun h => by cases h)
    | succ n ih =>
      intro x1 x2 g4 q h hK
      replace h : zf_M_anyOf_l0_b x1 f0 g0 g1 g2 g3 g5 (zf_M_anyOf_l0 x1 f0 g0 g1 g2 g3 g5 n) x2 g4 = some q := h
      unfold zf_M_anyOf_l0_b at h
      refine zv_ild hB zd248_2 rfl rfl ?_
      refine zv_ald hB zd248_3 rfl rfl rfl ?_
      refine zv_getf hB zd248_4 rfl rfl (fun _ _ => ?_)
      refine zv_cge hB zd248_7 rfl (fun hc1 => ?_) (fun hc1 => ?_)
      · rw [if_neg (Int.not_lt.mpr hc1)] at h
        have hq := Option.some.inj h
        subst hq
        refine zv_wk hB (L' := [.inr 1000, .inr 1000, .inr 1000]) (F' := [.inl f0]) ⟨fun (h : zv_is (.inr 1000)) => (Nat.lt_irrefl 1000 h).elim, fun (h : zv_is (.inr 1000)) => (Nat.lt_irrefl 1000 h).elim, fun (h : zv_is (.inr 1000)) => (Nat.lt_irrefl 1000 h).elim, trivial⟩ ⟨fun _ => rfl, trivial⟩ ?_
        exact hK
      · rw [if_pos hc1] at h
        refine zv_ald hB zd248_10 rfl rfl rfl ?_
        refine zv_getr hB zd248_11 rfl ?_
        refine zv_ild hB zd248_14 rfl rfl ?_
        obtain ⟨c2, h⟩ := zi_if h
        refine zv_iald hB zd248_15 rfl rfl (zi_ix_ok c2).1 (zi_ix_ok c2).2 (fun _ _ => ?_)
        refine zv_ild hB zd248_16 rfl rfl ?_
        refine zv_cne hB zd248_17 rfl (fun hc3 => ?_) (fun hc3 => ?_)
        · rw [if_neg hc3] at h
          refine zv_iincw hB zd248_42 rfl rfl ?_
          refine zv_goto hB zd248_45 rfl ?_
          exact ih _ _ _ q h hK
        · rw [if_pos hc3] at h
          refine zv_ald hB zd248_20 rfl rfl rfl ?_
          refine zv_ald hB zd248_21 rfl rfl rfl ?_
          refine zv_getr hB zd248_22 rfl ?_
          refine zv_ild hB zd248_25 rfl rfl ?_
          refine zv_iald hB zd248_26 rfl rfl (zi_ix_ok c2).1 (zi_ix_ok c2).2 (fun _ _ => ?_)
          refine zv_ald hB zd248_27 rfl rfl rfl ?_
          refine zv_getr hB zd248_28 rfl ?_
          refine zv_ild hB zd248_31 rfl rfl ?_
          refine zv_iald hB zd248_32 rfl rfl (zi_ix_ok c2).1 (zi_ix_ok c2).2 (fun _ _ => ?_)
          obtain ⟨r4, hr4, h⟩ := zi_bind h
          refine zv_cv hB (zv_emq (va2 := [.inr 0, .inl (g1 x2), .inl (g2 x2)]) (F := [.inl f0]) (F' := [.inl f0]) (G := [g0, g1, g2, g3, g4, g5]) (G' := [g0, g1, g2, g3, r4.2, g5]) (ρ := [0, 4, 5, 6]) (φ := []) (ψ := [3, 4, 5]) [none] [none, none, none, some 0, some 1, some 2] zyw_M_comesTo zyw_M_anyOf zye_M_anyOf (by decide +kernel) (zt_M_comesTo hr4) trivial ⟨rfl, rfl, rfl, trivial⟩ rfl rfl rfl rfl rfl rfl rfl) zd248_33 zxt249 rfl (by decide) (by decide) rfl ?_
          refine zv_con hB zd248_36 rfl ?_
          refine zv_cne hB zd248_37 rfl (fun hc5 => ?_) (fun hc5 => ?_)
          · rw [if_neg hc5] at h
            refine zv_iincw hB zd248_42 rfl rfl ?_
            refine zv_goto hB zd248_45 rfl ?_
            exact ih _ _ _ q h hK
          · rw [if_pos hc5] at h
            refine zv_con hB zd248_40 rfl ?_
            have hw : (1, r4.2) = o := zi_rk (Option.some.inj h) hK
            subst hw
            exact hret _ _ _ _ _ zd248_41 (by constructor <;> decide) ⟨rfl, rfl, rfl⟩
  unfold zf_M_anyOf at h
  refine zv_con hB zd248_0 rfl ?_
  refine zv_ist hB zd248_1 rfl rfl rfl ?_
  obtain ⟨q6, hq6, h⟩ := zi_bind h
  refine l0 _ _ _ _ q6 hq6 ?_
  rcases q6 with e7 | w8
  · replace h := zi_sl h
    show good 48 [.inr 1000, .inr 1000, .inr 1000] [] [.inl f0] [g0, g1, g2, g3, e7, g5]
    refine zv_con hB zd248_48 rfl ?_
    have hw := Option.some.inj h
    subst hw
    exact hret _ _ _ _ _ zd248_49 (by constructor <;> decide) ⟨rfl, rfl, rfl⟩
  · exact Option.some.inj h
/-! M_isSeen (II)Z -/
-- names: 0 StarTalesModel('arg', 0), 1 (0, 422)(0, 12, 0), 2 (0, 14)(0, 12, 21), 3 (0, 13)(0, 12, 26), 4 (0, 14)(0, 12, 23), 5 (0, 14)(0, 12, 24), 6 (0, 220)(0, 12, 20), 7 (0, 220)(0, 12, 25)
-- fields: f0 = 0.clauses_; arrays: g0 = 1, g1 = 2, g2 = 3, g3 = 4, g4 = 5, g5 = 6, g6 = 7; out: [('ret', None), ('g', 2), ('g', 6)]
abbrev zy_M_isSeen : zNL := (8, [(0, 12)], [(0, 12, 13, 0)], [(0, 12, 0, 1), (0, 12, 21, 2), (0, 12, 26, 3), (0, 12, 23, 4), (0, 12, 24, 5), (0, 12, 20, 6), (0, 12, 25, 7)], [(1, 0, 422, 0), (2, 0, 14, 1), (3, 0, 13, 2), (4, 0, 14, 3), (5, 0, 14, 4), (6, 0, 220, 5), (7, 0, 220, 6)])
theorem zyw_M_isSeen : zv_wf zy_M_isSeen = true := by decide +kernel
theorem zye_M_isSeen : zv_ek2 zy_M_isSeen = true := by decide +kernel
def zf_M_isSeen (x1 : Int) (x2 : Int) (f0 : Int) (g0 : (Int → Int)) (g1 : (Int → Int)) (g2 : (Int → Int)) (g3 : (Int → Int)) (g4 : (Int → Int)) (g5 : (Int → Int)) (g6 : (Int → Int)) : Option (Int × (Int → Int) × (Int → Int)) := (zf_M_standsAt x2 g0).bind fun r1 => ((zf_M_toRight (zi_rem x1 24) r1).bind fun r2 => ((zf_M_size r2).bind fun r3 => (if (g0 131) < r3 then (some (0, g2, g6)) else (cond (zi_ix (zi_w (24 + x2)) 422) ((zf_M_size (zi_w ((g0 (zi_w (24 + x2))) - (zi_div x1 24)))).bind fun r6 => (if (g0 132) < r6 then (some (0, g2, g6)) else ((zf_M_has (g0 130) r1).bind fun r8 => (if r8 = 0 then ((zf_M_hasClause 118 f0 g1).bind fun r10 => (if r10 = 0 then (some (1, g2, g6)) else ((zf_M_feelsStar x2 g2 g0).bind fun r12 => ((zf_M_way (zi_rem x1 24) (zi_div x1 24) r1 (g0 (zi_w (24 + x2)))).bind fun r13 => ((zf_M_anyOf 118 f0 g1 g3 g4 g5 g6 (zv_up (zv_up (zv_up r12 10 (zi_rem x1 24)) 11 (zi_div x1 24)) 12 r13)).bind fun r14 => (cond (zi_bo r14.1) (some (r14.1, (zv_up (zv_up (zv_up r12 10 (zi_rem x1 24)) 11 (zi_div x1 24)) 12 r13), r14.2)) none)))))) else (some (0, g2, g6)))))) none))))
theorem zd241_0 : decode zxm241.2.1 0 = .ok (.iload_n 1, 1) := by decide +kernel
theorem zd241_1 : decode zxm241.2.1 1 = .ok (.bipush 24, 2) := by decide +kernel
theorem zd241_3 : decode zxm241.2.1 3 = .ok (.irem, 1) := by decide +kernel
theorem zd241_4 : decode zxm241.2.1 4 = .ok (.istore_n 3, 1) := by decide +kernel
theorem zd241_5 : decode zxm241.2.1 5 = .ok (.iload_n 1, 1) := by decide +kernel
theorem zd241_6 : decode zxm241.2.1 6 = .ok (.bipush 24, 2) := by decide +kernel
theorem zd241_8 : decode zxm241.2.1 8 = .ok (.idiv, 1) := by decide +kernel
theorem zd241_9 : decode zxm241.2.1 9 = .ok (.istore 4, 2) := by decide +kernel
theorem zd241_11 : decode zxm241.2.1 11 = .ok (.aload_n 0, 1) := by decide +kernel
theorem zd241_12 : decode zxm241.2.1 12 = .ok (.iload_n 2, 1) := by decide +kernel
theorem zd241_13 : decode zxm241.2.1 13 = .ok (.invokevirtual 281, 3) := by decide +kernel
theorem zd241_16 : decode zxm241.2.1 16 = .ok (.istore 5, 2) := by decide +kernel
theorem zd241_18 : decode zxm241.2.1 18 = .ok (.iload_n 3, 1) := by decide +kernel
theorem zd241_19 : decode zxm241.2.1 19 = .ok (.iload 5, 2) := by decide +kernel
theorem zd241_21 : decode zxm241.2.1 21 = .ok (.invokestatic 142, 3) := by decide +kernel
theorem zd241_24 : decode zxm241.2.1 24 = .ok (.invokestatic 146, 3) := by decide +kernel
theorem zd241_27 : decode zxm241.2.1 27 = .ok (.aload_n 0, 1) := by decide +kernel
theorem zd241_28 : decode zxm241.2.1 28 = .ok (.getfield 7, 3) := by decide +kernel
theorem zd241_31 : decode zxm241.2.1 31 = .ok (.sipush 131, 3) := by decide +kernel
theorem zd241_34 : decode zxm241.2.1 34 = .ok (.iaload, 1) := by decide +kernel
theorem zd241_35 : decode zxm241.2.1 35 = .ok (.if_icmp .gt 45, 3) := by decide +kernel
theorem zd241_38 : decode zxm241.2.1 38 = .ok (.aload_n 0, 1) := by decide +kernel
theorem zd241_39 : decode zxm241.2.1 39 = .ok (.getfield 7, 3) := by decide +kernel
theorem zd241_42 : decode zxm241.2.1 42 = .ok (.bipush 24, 2) := by decide +kernel
theorem zd241_44 : decode zxm241.2.1 44 = .ok (.iload_n 2, 1) := by decide +kernel
theorem zd241_45 : decode zxm241.2.1 45 = .ok (.iadd, 1) := by decide +kernel
theorem zd241_46 : decode zxm241.2.1 46 = .ok (.iaload, 1) := by decide +kernel
theorem zd241_47 : decode zxm241.2.1 47 = .ok (.iload 4, 2) := by decide +kernel
theorem zd241_49 : decode zxm241.2.1 49 = .ok (.isub, 1) := by decide +kernel
theorem zd241_50 : decode zxm241.2.1 50 = .ok (.invokestatic 146, 3) := by decide +kernel
theorem zd241_53 : decode zxm241.2.1 53 = .ok (.aload_n 0, 1) := by decide +kernel
theorem zd241_54 : decode zxm241.2.1 54 = .ok (.getfield 7, 3) := by decide +kernel
theorem zd241_57 : decode zxm241.2.1 57 = .ok (.sipush 132, 3) := by decide +kernel
theorem zd241_60 : decode zxm241.2.1 60 = .ok (.iaload, 1) := by decide +kernel
theorem zd241_61 : decode zxm241.2.1 61 = .ok (.if_icmp .gt 19, 3) := by decide +kernel
theorem zd241_64 : decode zxm241.2.1 64 = .ok (.aload_n 0, 1) := by decide +kernel
theorem zd241_65 : decode zxm241.2.1 65 = .ok (.getfield 7, 3) := by decide +kernel
theorem zd241_68 : decode zxm241.2.1 68 = .ok (.sipush 130, 3) := by decide +kernel
theorem zd241_71 : decode zxm241.2.1 71 = .ok (.iaload, 1) := by decide +kernel
theorem zd241_72 : decode zxm241.2.1 72 = .ok (.iload 5, 2) := by decide +kernel
theorem zd241_74 : decode zxm241.2.1 74 = .ok (.invokestatic 138, 3) := by decide +kernel
theorem zd241_77 : decode zxm241.2.1 77 = .ok (.ifCond .eq 5, 3) := by decide +kernel
theorem zd241_80 : decode zxm241.2.1 80 = .ok (.iconst 0, 1) := by decide +kernel
theorem zd241_81 : decode zxm241.2.1 81 = .ok (.ireturn, 1) := by decide +kernel
theorem zd241_82 : decode zxm241.2.1 82 = .ok (.aload_n 0, 1) := by decide +kernel
theorem zd241_83 : decode zxm241.2.1 83 = .ok (.bipush 118, 2) := by decide +kernel
theorem zd241_85 : decode zxm241.2.1 85 = .ok (.invokevirtual 284, 3) := by decide +kernel
theorem zd241_88 : decode zxm241.2.1 88 = .ok (.ifCond .ne 5, 3) := by decide +kernel
theorem zd241_91 : decode zxm241.2.1 91 = .ok (.iconst 1, 1) := by decide +kernel
theorem zd241_92 : decode zxm241.2.1 92 = .ok (.ireturn, 1) := by decide +kernel
theorem zd241_93 : decode zxm241.2.1 93 = .ok (.aload_n 0, 1) := by decide +kernel
theorem zd241_94 : decode zxm241.2.1 94 = .ok (.iload_n 2, 1) := by decide +kernel
theorem zd241_95 : decode zxm241.2.1 95 = .ok (.invokevirtual 287, 3) := by decide +kernel
theorem zd241_98 : decode zxm241.2.1 98 = .ok (.aload_n 0, 1) := by decide +kernel
theorem zd241_99 : decode zxm241.2.1 99 = .ok (.getfield 59, 3) := by decide +kernel
theorem zd241_102 : decode zxm241.2.1 102 = .ok (.bipush 10, 2) := by decide +kernel
theorem zd241_104 : decode zxm241.2.1 104 = .ok (.iload_n 3, 1) := by decide +kernel
theorem zd241_105 : decode zxm241.2.1 105 = .ok (.iastore, 1) := by decide +kernel
theorem zd241_106 : decode zxm241.2.1 106 = .ok (.aload_n 0, 1) := by decide +kernel
theorem zd241_107 : decode zxm241.2.1 107 = .ok (.getfield 59, 3) := by decide +kernel
theorem zd241_110 : decode zxm241.2.1 110 = .ok (.bipush 11, 2) := by decide +kernel
theorem zd241_112 : decode zxm241.2.1 112 = .ok (.iload 4, 2) := by decide +kernel
theorem zd241_114 : decode zxm241.2.1 114 = .ok (.iastore, 1) := by decide +kernel
theorem zd241_115 : decode zxm241.2.1 115 = .ok (.aload_n 0, 1) := by decide +kernel
theorem zd241_116 : decode zxm241.2.1 116 = .ok (.getfield 59, 3) := by decide +kernel
theorem zd241_119 : decode zxm241.2.1 119 = .ok (.bipush 12, 2) := by decide +kernel
theorem zd241_121 : decode zxm241.2.1 121 = .ok (.iload_n 3, 1) := by decide +kernel
theorem zd241_122 : decode zxm241.2.1 122 = .ok (.iload 4, 2) := by decide +kernel
theorem zd241_124 : decode zxm241.2.1 124 = .ok (.iload 5, 2) := by decide +kernel
theorem zd241_126 : decode zxm241.2.1 126 = .ok (.aload_n 0, 1) := by decide +kernel
theorem zd241_127 : decode zxm241.2.1 127 = .ok (.getfield 7, 3) := by decide +kernel
theorem zd241_130 : decode zxm241.2.1 130 = .ok (.bipush 24, 2) := by decide +kernel
theorem zd241_132 : decode zxm241.2.1 132 = .ok (.iload_n 2, 1) := by decide +kernel
theorem zd241_133 : decode zxm241.2.1 133 = .ok (.iadd, 1) := by decide +kernel
theorem zd241_134 : decode zxm241.2.1 134 = .ok (.iaload, 1) := by decide +kernel
theorem zd241_135 : decode zxm241.2.1 135 = .ok (.invokestatic 290, 3) := by decide +kernel
theorem zd241_138 : decode zxm241.2.1 138 = .ok (.iastore, 1) := by decide +kernel
theorem zd241_139 : decode zxm241.2.1 139 = .ok (.aload_n 0, 1) := by decide +kernel
theorem zd241_140 : decode zxm241.2.1 140 = .ok (.bipush 118, 2) := by decide +kernel
theorem zd241_142 : decode zxm241.2.1 142 = .ok (.invokevirtual 294, 3) := by decide +kernel
theorem zd241_145 : decode zxm241.2.1 145 = .ok (.ireturn, 1) := by decide +kernel
theorem zt_M_isSeen {x1 : Int} {x2 : Int} {f0 : Int} {g0 : (Int → Int)} {g1 : (Int → Int)} {g2 : (Int → Int)} {g3 : (Int → Int)} {g4 : (Int → Int)} {g5 : (Int → Int)} {g6 : (Int → Int)} {o : Int × (Int → Int) × (Int → Int)} (h : zf_M_isSeen x1 x2 f0 g0 g1 g2 g3 g4 g5 g6 = some o) : zv_Fn z_TB z_cl z_KX zy_M_isSeen zxm241 (3, 180) [.inr 0, .inl x1, .inl x2] [.inl f0] [g0, g1, g2, g3, g4, g5, g6] (some o.1) [.inl f0] [g0, g1, o.2.1, g3, g4, g5, o.2.2] := zv_meth (K := (z_KF13, z_KC13, z_KL13, z_KT13, [], [], [], none)) (FT := z_FT) (MT := z_MT) (n := 3) zxp241 (z_ks13 _ (fun _ h => List.mem_cons_of_mem _ h) _ _ _ _ (fun j r h _ => by cases h)) (fun _ _ => zs_KX_p) zyw_M_isSeen (fun va F G h => by obtain ⟨rfl, _⟩ := h; rfl) (fun va F G h => by obtain ⟨rfl, _⟩ := h; rfl) rfl fun good va F G hB hret hvret hP => by
  obtain ⟨rfl, rfl, rfl⟩ := hP
  unfold zf_M_isSeen at h
  refine zv_ild hB zd241_0 rfl rfl ?_
  refine zv_con hB zd241_1 rfl ?_
  refine zv_remw hB zd241_3 (by decide) ?_
  refine zv_ist hB zd241_4 rfl rfl rfl ?_
  refine zv_ild hB zd241_5 rfl rfl ?_
  refine zv_con hB zd241_6 rfl ?_
  refine zv_divw hB zd241_8 (by decide) ?_
  refine zv_ist hB zd241_9 rfl rfl rfl ?_
  refine zv_ald hB zd241_11 rfl rfl rfl ?_
  refine zv_ild hB zd241_12 rfl rfl ?_
  obtain ⟨r1, hr1, h⟩ := zi_bind h
  refine zv_cv hB (zv_emq (va2 := [.inr 0, .inl x2]) (F := [.inl f0]) (F' := [.inl f0]) (G := [g0, g1, g2, g3, g4, g5, g6]) (G' := [g0, g1, g2, g3, g4, g5, g6]) (ρ := [0, 1]) (φ := []) (ψ := [0]) [none] [some 0, none, none, none, none, none, none] zyw_M_standsAt zyw_M_isSeen zye_M_isSeen (by decide +kernel) (zt_M_standsAt hr1) trivial ⟨rfl, trivial⟩ rfl rfl rfl rfl rfl rfl rfl) zd241_13 zxt238 rfl (by decide) (by decide) rfl ?_
  refine zv_ist hB zd241_16 rfl rfl rfl ?_
  refine zv_ild hB zd241_18 rfl rfl ?_
  refine zv_ild hB zd241_19 rfl rfl ?_
  obtain ⟨r2, hr2, h⟩ := zi_bind h
  refine zv_cs hB (zv_emq (va2 := [.inl (zi_rem x1 24), .inl r1]) (F := [.inl f0]) (F' := [.inl f0]) (G := [g0, g1, g2, g3, g4, g5, g6]) (G' := [g0, g1, g2, g3, g4, g5, g6]) (ρ := []) (φ := []) (ψ := []) [none] [none, none, none, none, none, none, none] zyw_M_toRight zyw_M_isSeen zye_M_isSeen (by decide +kernel) (zt_M_toRight hr2) trivial trivial rfl rfl rfl rfl rfl rfl rfl) zd241_21 zxt242 rfl (by decide) (by decide) rfl ?_
  obtain ⟨r3, hr3, h⟩ := zi_bind h
  refine zv_cs hB (zv_emq (va2 := [.inl r2]) (F := [.inl f0]) (F' := [.inl f0]) (G := [g0, g1, g2, g3, g4, g5, g6]) (G' := [g0, g1, g2, g3, g4, g5, g6]) (ρ := []) (φ := []) (ψ := []) [none] [none, none, none, none, none, none, none] zyw_M_size zyw_M_isSeen zye_M_isSeen (by decide +kernel) (zt_M_size hr3) trivial trivial rfl rfl rfl rfl rfl rfl rfl) zd241_24 zxt243 rfl (by decide) (by decide) rfl ?_
  refine zv_ald hB zd241_27 rfl rfl rfl ?_
  refine zv_getr hB zd241_28 rfl ?_
  refine zv_con hB zd241_31 rfl ?_
  refine zv_iald hB zd241_34 rfl rfl (by decide) (by decide) (fun _ _ => ?_)
  refine zv_cgt hB zd241_35 rfl (fun hc4 => ?_) (fun hc4 => ?_)
  · rw [if_pos hc4] at h
    refine zv_con hB zd241_80 rfl ?_
    have hw := Option.some.inj h
    subst hw
    exact hret _ _ _ _ _ zd241_81 (by constructor <;> decide) ⟨rfl, rfl, rfl⟩
  · rw [if_neg (Int.not_lt.mpr hc4)] at h
    refine zv_ald hB zd241_38 rfl rfl rfl ?_
    refine zv_getr hB zd241_39 rfl ?_
    refine zv_con hB zd241_42 rfl ?_
    refine zv_ild hB zd241_44 rfl rfl ?_
    refine zv_addw hB zd241_45 ?_
    obtain ⟨c5, h⟩ := zi_if h
    refine zv_iald hB zd241_46 rfl rfl (zi_ix_ok c5).1 (zi_ix_ok c5).2 (fun _ _ => ?_)
    refine zv_ild hB zd241_47 rfl rfl ?_
    refine zv_subw hB zd241_49 ?_
    obtain ⟨r6, hr6, h⟩ := zi_bind h
    refine zv_cs hB (zv_emq (va2 := [.inl (zi_w ((g0 (zi_w (24 + x2))) - (zi_div x1 24)))]) (F := [.inl f0]) (F' := [.inl f0]) (G := [g0, g1, g2, g3, g4, g5, g6]) (G' := [g0, g1, g2, g3, g4, g5, g6]) (ρ := []) (φ := []) (ψ := []) [none] [none, none, none, none, none, none, none] zyw_M_size zyw_M_isSeen zye_M_isSeen (by decide +kernel) (zt_M_size hr6) trivial trivial rfl rfl rfl rfl rfl rfl rfl) zd241_50 zxt243 rfl (by decide) (by decide) rfl ?_
    refine zv_ald hB zd241_53 rfl rfl rfl ?_
    refine zv_getr hB zd241_54 rfl ?_
    refine zv_con hB zd241_57 rfl ?_
    refine zv_iald hB zd241_60 rfl rfl (by decide) (by decide) (fun _ _ => ?_)
    refine zv_cgt hB zd241_61 rfl (fun hc7 => ?_) (fun hc7 => ?_)
    · rw [if_pos hc7] at h
      refine zv_con hB zd241_80 rfl ?_
      have hw := Option.some.inj h
      subst hw
      exact hret _ _ _ _ _ zd241_81 (by constructor <;> decide) ⟨rfl, rfl, rfl⟩
    · rw [if_neg (Int.not_lt.mpr hc7)] at h
      refine zv_ald hB zd241_64 rfl rfl rfl ?_
      refine zv_getr hB zd241_65 rfl ?_
      refine zv_con hB zd241_68 rfl ?_
      refine zv_iald hB zd241_71 rfl rfl (by decide) (by decide) (fun _ _ => ?_)
      refine zv_ild hB zd241_72 rfl rfl ?_
      obtain ⟨r8, hr8, h⟩ := zi_bind h
      refine zv_cs hB (zv_emq (va2 := [.inl (g0 130), .inl r1]) (F := [.inl f0]) (F' := [.inl f0]) (G := [g0, g1, g2, g3, g4, g5, g6]) (G' := [g0, g1, g2, g3, g4, g5, g6]) (ρ := []) (φ := []) (ψ := []) [none] [none, none, none, none, none, none, none] zyw_M_has zyw_M_isSeen zye_M_isSeen (by decide +kernel) (zt_M_has hr8) trivial trivial rfl rfl rfl rfl rfl rfl rfl) zd241_74 zxt204 rfl (by decide) (by decide) rfl ?_
      refine zv_zeq hB zd241_77 rfl (fun hc9 => ?_) (fun hc9 => ?_)
      · rw [if_pos hc9] at h
        refine zv_ald hB zd241_82 rfl rfl rfl ?_
        refine zv_con hB zd241_83 rfl ?_
        obtain ⟨r10, hr10, h⟩ := zi_bind h
        refine zv_cv hB (zv_emq (va2 := [.inr 0, .inl 118]) (F := [.inl f0]) (F' := [.inl f0]) (G := [g0, g1, g2, g3, g4, g5, g6]) (G' := [g0, g1, g2, g3, g4, g5, g6]) (ρ := [0, 2]) (φ := [0]) (ψ := [1]) [some 0] [none, some 0, none, none, none, none, none] zyw_M_hasClause zyw_M_isSeen zye_M_isSeen (by decide +kernel) (zt_M_hasClause hr10) ⟨⟨_, rfl, fun _ => rfl⟩, trivial⟩ ⟨rfl, trivial⟩ rfl rfl rfl rfl rfl rfl rfl) zd241_85 zxt244 rfl (by decide) (by decide) rfl ?_
        refine zv_zne hB zd241_88 rfl (fun hc11 => ?_) (fun hc11 => ?_)
        · rw [if_neg hc11] at h
          refine zv_ald hB zd241_93 rfl rfl rfl ?_
          refine zv_ild hB zd241_94 rfl rfl ?_
          obtain ⟨r12, hr12, h⟩ := zi_bind h
          refine zv_cv hB (zv_emq (va2 := [.inr 0, .inl x2]) (F := [.inl f0]) (F' := [.inl f0]) (G := [g0, g1, g2, g3, g4, g5, g6]) (G' := [g0, g1, r12, g3, g4, g5, g6]) (ρ := [0, 3, 1]) (φ := []) (ψ := [2, 0]) [none] [some 1, none, some 0, none, none, none, none] zyw_M_feelsStar zyw_M_isSeen zye_M_isSeen (by decide +kernel) (zt_M_feelsStar hr12) trivial ⟨rfl, rfl, trivial⟩ rfl rfl rfl rfl rfl rfl rfl) zd241_95 zxt245 rfl (by decide) (by decide) rfl ?_
          refine zv_ald hB zd241_98 rfl rfl rfl ?_
          refine zv_getr hB zd241_99 rfl ?_
          refine zv_con hB zd241_102 rfl ?_
          refine zv_ild hB zd241_104 rfl rfl ?_
          refine zv_iast hB zd241_105 rfl rfl (by decide) (by decide) ?_
          refine zv_ald hB zd241_106 rfl rfl rfl ?_
          refine zv_getr hB zd241_107 rfl ?_
          refine zv_con hB zd241_110 rfl ?_
          refine zv_ild hB zd241_112 rfl rfl ?_
          refine zv_iast hB zd241_114 rfl rfl (by decide) (by decide) ?_
          refine zv_ald hB zd241_115 rfl rfl rfl ?_
          refine zv_getr hB zd241_116 rfl ?_
          refine zv_con hB zd241_119 rfl ?_
          refine zv_ild hB zd241_121 rfl rfl ?_
          refine zv_ild hB zd241_122 rfl rfl ?_
          refine zv_ild hB zd241_124 rfl rfl ?_
          refine zv_ald hB zd241_126 rfl rfl rfl ?_
          refine zv_getr hB zd241_127 rfl ?_
          refine zv_con hB zd241_130 rfl ?_
          refine zv_ild hB zd241_132 rfl rfl ?_
          refine zv_addw hB zd241_133 ?_
          refine zv_iald hB zd241_134 rfl rfl (zi_ix_ok c5).1 (zi_ix_ok c5).2 (fun _ _ => ?_)
          obtain ⟨r13, hr13, h⟩ := zi_bind h
          refine zv_cs hB (zv_emq (va2 := [.inl (zi_rem x1 24), .inl (zi_div x1 24), .inl r1, .inl (g0 (zi_w (24 + x2)))]) (F := [.inl f0]) (F' := [.inl f0]) (G := [g0, g1, (zv_up (zv_up r12 10 (zi_rem x1 24)) 11 (zi_div x1 24)), g3, g4, g5, g6]) (G' := [g0, g1, (zv_up (zv_up r12 10 (zi_rem x1 24)) 11 (zi_div x1 24)), g3, g4, g5, g6]) (ρ := []) (φ := []) (ψ := []) [none] [none, none, none, none, none, none, none] zyw_M_way zyw_M_isSeen zye_M_isSeen (by decide +kernel) (zt_M_way hr13) trivial trivial rfl rfl rfl rfl rfl rfl rfl) zd241_135 zxt247 rfl (by decide) (by decide) rfl ?_
          refine zv_iast hB zd241_138 rfl rfl (by decide) (by decide) ?_
          refine zv_ald hB zd241_139 rfl rfl rfl ?_
          refine zv_con hB zd241_140 rfl ?_
          obtain ⟨r14, hr14, h⟩ := zi_bind h
          refine zv_cv hB (zv_emq (va2 := [.inr 0, .inl 118]) (F := [.inl f0]) (F' := [.inl f0]) (G := [g0, g1, (zv_up (zv_up (zv_up r12 10 (zi_rem x1 24)) 11 (zi_div x1 24)) 12 r13), g3, g4, g5, g6]) (G' := [g0, g1, (zv_up (zv_up (zv_up r12 10 (zi_rem x1 24)) 11 (zi_div x1 24)) 12 r13), g3, g4, g5, r14.2]) (ρ := [0, 2, 4, 5, 6, 7, 3]) (φ := [0]) (ψ := [1, 3, 4, 5, 6, 2]) [some 0] [none, some 0, some 5, some 1, some 2, some 3, some 4] zyw_M_anyOf zyw_M_isSeen zye_M_isSeen (by decide +kernel) (zt_M_anyOf hr14) ⟨⟨_, rfl, fun _ => rfl⟩, trivial⟩ ⟨rfl, rfl, rfl, rfl, rfl, rfl, trivial⟩ rfl rfl rfl rfl rfl rfl rfl) zd241_142 zxt248 rfl (by decide) (by decide) rfl ?_
          obtain ⟨c15, h⟩ := zi_if h
          have hw := Option.some.inj h
          subst hw
          exact hret _ _ _ _ _ zd241_145 (zi_bo_ok c15) ⟨rfl, rfl, rfl⟩
        · rw [if_pos hc11] at h
          refine zv_con hB zd241_91 rfl ?_
          have hw := Option.some.inj h
          subst hw
          exact hret _ _ _ _ _ zd241_92 (by constructor <;> decide) ⟨rfl, rfl, rfl⟩
      · rw [if_neg hc9] at h
        refine zv_con hB zd241_80 rfl ?_
        have hw := Option.some.inj h
        subst hw
        exact hret _ _ _ _ _ zd241_81 (by constructor <;> decide) ⟨rfl, rfl, rfl⟩
/-! M_seenFrom (I)I -/
-- names: 0 StarTalesModel('arg', 0), 1 (0, 422)(0, 12, 0), 2 (0, 14)(0, 12, 21), 3 (0, 13)(0, 12, 26), 4 (0, 14)(0, 12, 23), 5 (0, 14)(0, 12, 24), 6 (0, 220)(0, 12, 20), 7 (0, 220)(0, 12, 25)
-- fields: f0 = 0.clauses_; arrays: g0 = 1, g1 = 2, g2 = 3, g3 = 4, g4 = 5, g5 = 6, g6 = 7; out: [('ret', None), ('g', 2), ('g', 6)]
abbrev zy_M_seenFrom : zNL := (8, [(0, 12)], [(0, 12, 13, 0)], [(0, 12, 0, 1), (0, 12, 21, 2), (0, 12, 26, 3), (0, 12, 23, 4), (0, 12, 24, 5), (0, 12, 20, 6), (0, 12, 25, 7)], [(1, 0, 422, 0), (2, 0, 14, 1), (3, 0, 13, 2), (4, 0, 14, 3), (5, 0, 14, 4), (6, 0, 220, 5), (7, 0, 220, 6)])
theorem zyw_M_seenFrom : zv_wf zy_M_seenFrom = true := by decide +kernel
theorem zye_M_seenFrom : zv_ek2 zy_M_seenFrom = true := by decide +kernel
def zf_M_seenFrom_l0_b (x1 : Int) (f0 : Int) (g0 : (Int → Int)) (g1 : (Int → Int)) (g3 : (Int → Int)) (g4 : (Int → Int)) (g5 : (Int → Int)) (rec : Int → Int → (Int → Int) → (Int → Int) → Option (Int × (Int → Int) × (Int → Int))) (x2 : Int) (x3 : Int) (g2 : (Int → Int)) (g6 : (Int → Int)) : Option (Int × (Int → Int) × (Int → Int)) := if x3 < 24 then ((zf_M_isTold x3 g0).bind fun r2 => (if r2 = 0 then (rec x2 (zi_w (x3 + 1)) g2 g6) else ((zf_M_isSeen x1 x3 f0 g0 g1 g2 g3 g4 g5 g6).bind fun r4 => (if r4.1 = 0 then (rec x2 (zi_w (x3 + 1)) r4.2.1 r4.2.2) else (rec (zi_or x2 (zi_shl 1 x3)) (zi_w (x3 + 1)) r4.2.1 r4.2.2))))) else (some (x2, g2, g6))
def zf_M_seenFrom_l0 (x1 : Int) (f0 : Int) (g0 : (Int → Int)) (g1 : (Int → Int)) (g3 : (Int → Int)) (g4 : (Int → Int)) (g5 : (Int → Int)) : Nat → Int → Int → (Int → Int) → (Int → Int) → Option (Int × (Int → Int) × (Int → Int))
  | 0, _, _, _, _ => none
  | n + 1, x2, x3, g2, g6 => zf_M_seenFrom_l0_b x1 f0 g0 g1 g3 g4 g5 (zf_M_seenFrom_l0 x1 f0 g0 g1 g3 g4 g5 n) x2 x3 g2 g6
def zf_M_seenFrom (x1 : Int) (f0 : Int) (g0 : (Int → Int)) (g1 : (Int → Int)) (g2 : (Int → Int)) (g3 : (Int → Int)) (g4 : (Int → Int)) (g5 : (Int → Int)) (g6 : (Int → Int)) : Option (Int × (Int → Int) × (Int → Int)) := (zf_M_seenFrom_l0 x1 f0 g0 g1 g3 g4 g5 zi_fu 0 0 g2 g6).bind fun q6 => (some (q6.1, q6.2.1, q6.2.2))
theorem zd240_0 : decode zxm240.2.1 0 = .ok (.iconst 0, 1) := by decide +kernel
theorem zd240_1 : decode zxm240.2.1 1 = .ok (.istore_n 2, 1) := by decide +kernel
theorem zd240_2 : decode zxm240.2.1 2 = .ok (.iconst 0, 1) := by decide +kernel
theorem zd240_3 : decode zxm240.2.1 3 = .ok (.istore_n 3, 1) := by decide +kernel
theorem zd240_4 : decode zxm240.2.1 4 = .ok (.iload_n 3, 1) := by decide +kernel
theorem zd240_5 : decode zxm240.2.1 5 = .ok (.bipush 24, 2) := by decide +kernel
theorem zd240_7 : decode zxm240.2.1 7 = .ok (.if_icmp .ge 32, 3) := by decide +kernel
theorem zd240_10 : decode zxm240.2.1 10 = .ok (.aload_n 0, 1) := by decide +kernel
theorem zd240_11 : decode zxm240.2.1 11 = .ok (.iload_n 3, 1) := by decide +kernel
theorem zd240_12 : decode zxm240.2.1 12 = .ok (.invokevirtual 157, 3) := by decide +kernel
theorem zd240_15 : decode zxm240.2.1 15 = .ok (.ifCond .eq 18, 3) := by decide +kernel
theorem zd240_18 : decode zxm240.2.1 18 = .ok (.aload_n 0, 1) := by decide +kernel
theorem zd240_19 : decode zxm240.2.1 19 = .ok (.iload_n 1, 1) := by decide +kernel
theorem zd240_20 : decode zxm240.2.1 20 = .ok (.iload_n 3, 1) := by decide +kernel
theorem zd240_21 : decode zxm240.2.1 21 = .ok (.invokevirtual 297, 3) := by decide +kernel
theorem zd240_24 : decode zxm240.2.1 24 = .ok (.ifCond .eq 9, 3) := by decide +kernel
theorem zd240_27 : decode zxm240.2.1 27 = .ok (.iload_n 2, 1) := by decide +kernel
theorem zd240_28 : decode zxm240.2.1 28 = .ok (.iconst 1, 1) := by decide +kernel
theorem zd240_29 : decode zxm240.2.1 29 = .ok (.iload_n 3, 1) := by decide +kernel
theorem zd240_30 : decode zxm240.2.1 30 = .ok (.ishl, 1) := by decide +kernel
theorem zd240_31 : decode zxm240.2.1 31 = .ok (.ior, 1) := by decide +kernel
theorem zd240_32 : decode zxm240.2.1 32 = .ok (.istore_n 2, 1) := by decide +kernel
theorem zd240_33 : decode zxm240.2.1 33 = .ok (.iinc 3 1, 3) := by decide +kernel
theorem zd240_36 : decode zxm240.2.1 36 = .ok (.goto (-32), 3) := by decide +kernel
theorem zd240_39 : decode zxm240.2.1 39 = .ok (.iload_n 2, 1) := by decide +kernel
theorem zd240_40 : decode zxm240.2.1 40 = .ok (.ireturn, 1) := by decide +kernel
theorem zt_M_seenFrom {x1 : Int} {f0 : Int} {g0 : (Int → Int)} {g1 : (Int → Int)} {g2 : (Int → Int)} {g3 : (Int → Int)} {g4 : (Int → Int)} {g5 : (Int → Int)} {g6 : (Int → Int)} {o : Int × (Int → Int) × (Int → Int)} (h : zf_M_seenFrom x1 f0 g0 g1 g2 g3 g4 g5 g6 = some o) : zv_Fn z_TB z_cl z_KX zy_M_seenFrom zxm240 (4, 240) [.inr 0, .inl x1] [.inl f0] [g0, g1, g2, g3, g4, g5, g6] (some o.1) [.inl f0] [g0, g1, o.2.1, g3, g4, g5, o.2.2] := zv_meth (K := (z_KF13, z_KC13, z_KL13, z_KT13, [], [], [], none)) (FT := z_FT) (MT := z_MT) (n := 2) zxp240 (z_ks13 _ (fun _ h => List.mem_cons_of_mem _ h) _ _ _ _ (fun j r h _ => by cases h)) (fun _ _ => zs_KX_p) zyw_M_seenFrom (fun va F G h => by obtain ⟨rfl, _⟩ := h; rfl) (fun va F G h => by obtain ⟨rfl, _⟩ := h; rfl) rfl fun good va F G hB hret hvret hP => by
  obtain ⟨rfl, rfl, rfl⟩ := hP
  have l0 : ∀ (n : Nat) (x1 : Int) (x2 : Int) (x3 : Int) (g2 : (Int → Int)) (g6 : (Int → Int)) (q : Int × (Int → Int) × (Int → Int)), zf_M_seenFrom_l0 x1 f0 g0 g1 g3 g4 g5 n x2 x3 g2 g6 = some q → (good 39 [.inr 1000, .inr 1000, .inl q.1, .inr 1000] [] [.inl f0] [g0, g1, q.2.1, g3, g4, g5, q.2.2]) → good 4 [.inr 0, .inl x1, .inl x2, .inl x3] [] [.inl f0] [g0, g1, g2, g3, g4, g5, g6] := by
    intro n
    induction n with
    | zero => intro x1 x2 x3 g2 g6 q h; exact absurd (show none = some q from h) (fun h => by cases h)
    | succ n ih =>
      intro x1 x2 x3 g2 g6 q h hK
      replace h : zf_M_seenFrom_l0_b x1 f0 g0 g1 g3 g4 g5 (zf_M_seenFrom_l0 x1 f0 g0 g1 g3 g4 g5 n) x2 x3 g2 g6 = some q := h
      unfold zf_M_seenFrom_l0_b at h
      refine zv_ild hB zd240_4 rfl rfl ?_
      refine zv_con hB zd240_5 rfl ?_
      refine zv_cge hB zd240_7 rfl (fun hc1 => ?_) (fun hc1 => ?_)
      · rw [if_neg (Int.not_lt.mpr hc1)] at h
        have hq := Option.some.inj h
        subst hq
        refine zv_wk hB (L' := [.inr 1000, .inr 1000, .inl x2, .inr 1000]) (F' := [.inl f0]) ⟨fun (h : zv_is (.inr 1000)) => (Nat.lt_irrefl 1000 h).elim, fun (h : zv_is (.inr 1000)) => (Nat.lt_irrefl 1000 h).elim, fun _ => rfl, fun (h : zv_is (.inr 1000)) => (Nat.lt_irrefl 1000 h).elim, trivial⟩ ⟨fun _ => rfl, trivial⟩ ?_
        exact hK
      · rw [if_pos hc1] at h
        refine zv_ald hB zd240_10 rfl rfl rfl ?_
        refine zv_ild hB zd240_11 rfl rfl ?_
        obtain ⟨r2, hr2, h⟩ := zi_bind h
        refine zv_cv hB (zv_emq (va2 := [.inr 0, .inl x3]) (F := [.inl f0]) (F' := [.inl f0]) (G := [g0, g1, g2, g3, g4, g5, g6]) (G' := [g0, g1, g2, g3, g4, g5, g6]) (ρ := [0, 1]) (φ := []) (ψ := [0]) [none] [some 0, none, none, none, none, none, none] zyw_M_isTold zyw_M_seenFrom zye_M_seenFrom (by decide +kernel) (zt_M_isTold hr2) trivial ⟨rfl, trivial⟩ rfl rfl rfl rfl rfl rfl rfl) zd240_12 zxt203 rfl (by decide) (by decide) rfl ?_
        refine zv_zeq hB zd240_15 rfl (fun hc3 => ?_) (fun hc3 => ?_)
        · rw [if_pos hc3] at h
          refine zv_iincw hB zd240_33 rfl rfl ?_
          refine zv_goto hB zd240_36 rfl ?_
          exact ih _ _ _ _ _ q h hK
        · rw [if_neg hc3] at h
          refine zv_ald hB zd240_18 rfl rfl rfl ?_
          refine zv_ild hB zd240_19 rfl rfl ?_
          refine zv_ild hB zd240_20 rfl rfl ?_
          obtain ⟨r4, hr4, h⟩ := zi_bind h
          refine zv_cv hB (zv_emq (va2 := [.inr 0, .inl x1, .inl x3]) (F := [.inl f0]) (F' := [.inl f0]) (G := [g0, g1, g2, g3, g4, g5, g6]) (G' := [g0, g1, r4.2.1, g3, g4, g5, r4.2.2]) (ρ := [0, 1, 2, 3, 4, 5, 6, 7]) (φ := [0]) (ψ := [0, 1, 2, 3, 4, 5, 6]) [some 0] [some 0, some 1, some 2, some 3, some 4, some 5, some 6] zyw_M_isSeen zyw_M_seenFrom zye_M_seenFrom (by decide +kernel) (zt_M_isSeen hr4) ⟨⟨_, rfl, fun _ => rfl⟩, trivial⟩ ⟨rfl, rfl, rfl, rfl, rfl, rfl, rfl, trivial⟩ rfl rfl rfl rfl rfl rfl rfl) zd240_21 zxt241 rfl (by decide) (by decide) rfl ?_
          refine zv_zeq hB zd240_24 rfl (fun hc5 => ?_) (fun hc5 => ?_)
          · rw [if_pos hc5] at h
            refine zv_iincw hB zd240_33 rfl rfl ?_
            refine zv_goto hB zd240_36 rfl ?_
            exact ih _ _ _ _ _ q h hK
          · rw [if_neg hc5] at h
            refine zv_ild hB zd240_27 rfl rfl ?_
            refine zv_con hB zd240_28 rfl ?_
            refine zv_ild hB zd240_29 rfl rfl ?_
            refine zv_shlw hB zd240_30 ?_
            refine zv_orw hB zd240_31 ?_
            refine zv_ist hB zd240_32 rfl rfl rfl ?_
            refine zv_iincw hB zd240_33 rfl rfl ?_
            refine zv_goto hB zd240_36 rfl ?_
            exact ih _ _ _ _ _ q h hK
  unfold zf_M_seenFrom at h
  refine zv_con hB zd240_0 rfl ?_
  refine zv_ist hB zd240_1 rfl rfl rfl ?_
  refine zv_con hB zd240_2 rfl ?_
  refine zv_ist hB zd240_3 rfl rfl rfl ?_
  obtain ⟨q6, hq6, h⟩ := zi_bind h
  refine l0 _ _ _ _ _ _ q6 hq6 ?_
  show good 39 [.inr 1000, .inr 1000, .inl q6.1, .inr 1000] [] [.inl f0] [g0, g1, q6.2.1, g3, g4, g5, q6.2.2]
  refine zv_ild hB zd240_39 rfl rfl ?_
  have hw := Option.some.inj h
  subst hw
  exact hret _ _ _ _ _ zd240_40 (by trivial) ⟨rfl, rfl, rfl⟩
/-! M_seen (II)I -/
-- names: 0 StarTalesModel('arg', 0), 1 (0, 422)(0, 12, 0), 2 (0, 14)(0, 12, 21), 3 (0, 13)(0, 12, 26), 4 (0, 14)(0, 12, 23), 5 (0, 14)(0, 12, 24), 6 (0, 220)(0, 12, 20), 7 (0, 220)(0, 12, 25)
-- fields: f0 = 0.clauses_; arrays: g0 = 1, g1 = 2, g2 = 3, g3 = 4, g4 = 5, g5 = 6, g6 = 7; out: [('ret', None), ('g', 2), ('g', 6)]
abbrev zy_M_seen : zNL := (8, [(0, 12)], [(0, 12, 13, 0)], [(0, 12, 0, 1), (0, 12, 21, 2), (0, 12, 26, 3), (0, 12, 23, 4), (0, 12, 24, 5), (0, 12, 20, 6), (0, 12, 25, 7)], [(1, 0, 422, 0), (2, 0, 14, 1), (3, 0, 13, 2), (4, 0, 14, 3), (5, 0, 14, 4), (6, 0, 220, 5), (7, 0, 220, 6)])
theorem zyw_M_seen : zv_wf zy_M_seen = true := by decide +kernel
theorem zye_M_seen : zv_ek2 zy_M_seen = true := by decide +kernel
def zf_M_seen (x1 : Int) (x2 : Int) (f0 : Int) (g0 : (Int → Int)) (g1 : (Int → Int)) (g2 : (Int → Int)) (g3 : (Int → Int)) (g4 : (Int → Int)) (g5 : (Int → Int)) (g6 : (Int → Int)) : Option (Int × (Int → Int) × (Int → Int)) := (zf_M_isPlace x1 x2).bind fun r1 => (if r1 = 0 then (some ((-1), g2, g6)) else ((zf_M_seenFrom (zi_w ((zi_w (24 * x2)) + x1)) f0 g0 g1 g2 g3 g4 g5 g6).bind fun r3 => (some (r3.1, r3.2.1, r3.2.2))))
theorem zd239_0 : decode zxm239.2.1 0 = .ok (.iload_n 1, 1) := by decide +kernel
theorem zd239_1 : decode zxm239.2.1 1 = .ok (.iload_n 2, 1) := by decide +kernel
theorem zd239_2 : decode zxm239.2.1 2 = .ok (.invokestatic 154, 3) := by decide +kernel
theorem zd239_5 : decode zxm239.2.1 5 = .ok (.ifCond .eq 16, 3) := by decide +kernel
theorem zd239_8 : decode zxm239.2.1 8 = .ok (.aload_n 0, 1) := by decide +kernel
theorem zd239_9 : decode zxm239.2.1 9 = .ok (.bipush 24, 2) := by decide +kernel
theorem zd239_11 : decode zxm239.2.1 11 = .ok (.iload_n 2, 1) := by decide +kernel
theorem zd239_12 : decode zxm239.2.1 12 = .ok (.imul, 1) := by decide +kernel
theorem zd239_13 : decode zxm239.2.1 13 = .ok (.iload_n 1, 1) := by decide +kernel
theorem zd239_14 : decode zxm239.2.1 14 = .ok (.iadd, 1) := by decide +kernel
theorem zd239_15 : decode zxm239.2.1 15 = .ok (.invokevirtual 300, 3) := by decide +kernel
theorem zd239_18 : decode zxm239.2.1 18 = .ok (.goto 4, 3) := by decide +kernel
theorem zd239_21 : decode zxm239.2.1 21 = .ok (.iconst (-1), 1) := by decide +kernel
theorem zd239_22 : decode zxm239.2.1 22 = .ok (.ireturn, 1) := by decide +kernel
theorem zt_M_seen {x1 : Int} {x2 : Int} {f0 : Int} {g0 : (Int → Int)} {g1 : (Int → Int)} {g2 : (Int → Int)} {g3 : (Int → Int)} {g4 : (Int → Int)} {g5 : (Int → Int)} {g6 : (Int → Int)} {o : Int × (Int → Int) × (Int → Int)} (h : zf_M_seen x1 x2 f0 g0 g1 g2 g3 g4 g5 g6 = some o) : zv_Fn z_TB z_cl z_KX zy_M_seen zxm239 (5, 300) [.inr 0, .inl x1, .inl x2] [.inl f0] [g0, g1, g2, g3, g4, g5, g6] (some o.1) [.inl f0] [g0, g1, o.2.1, g3, g4, g5, o.2.2] := zv_meth (K := (z_KF13, z_KC13, z_KL13, z_KT13, [], [], [], none)) (FT := z_FT) (MT := z_MT) (n := 3) zxp239 (z_ks13 _ (fun _ h => List.mem_cons_of_mem _ h) _ _ _ _ (fun j r h _ => by cases h)) (fun _ _ => zs_KX_p) zyw_M_seen (fun va F G h => by obtain ⟨rfl, _⟩ := h; rfl) (fun va F G h => by obtain ⟨rfl, _⟩ := h; rfl) rfl fun good va F G hB hret hvret hP => by
  obtain ⟨rfl, rfl, rfl⟩ := hP
  unfold zf_M_seen at h
  refine zv_ild hB zd239_0 rfl rfl ?_
  refine zv_ild hB zd239_1 rfl rfl ?_
  obtain ⟨r1, hr1, h⟩ := zi_bind h
  refine zv_cs hB (zv_emq (va2 := [.inl x1, .inl x2]) (F := [.inl f0]) (F' := [.inl f0]) (G := [g0, g1, g2, g3, g4, g5, g6]) (G' := [g0, g1, g2, g3, g4, g5, g6]) (ρ := []) (φ := []) (ψ := []) [none] [none, none, none, none, none, none, none] zyw_M_isPlace zyw_M_seen zye_M_seen (by decide +kernel) (zt_M_isPlace hr1) trivial trivial rfl rfl rfl rfl rfl rfl rfl) zd239_2 zxt201 rfl (by decide) (by decide) rfl ?_
  refine zv_zeq hB zd239_5 rfl (fun hc2 => ?_) (fun hc2 => ?_)
  · rw [if_pos hc2] at h
    refine zv_con hB zd239_21 rfl ?_
    have hw := Option.some.inj h
    subst hw
    exact hret _ _ _ _ _ zd239_22 (by trivial) ⟨rfl, rfl, rfl⟩
  · rw [if_neg hc2] at h
    refine zv_ald hB zd239_8 rfl rfl rfl ?_
    refine zv_con hB zd239_9 rfl ?_
    refine zv_ild hB zd239_11 rfl rfl ?_
    refine zv_mulw hB zd239_12 ?_
    refine zv_ild hB zd239_13 rfl rfl ?_
    refine zv_addw hB zd239_14 ?_
    obtain ⟨r3, hr3, h⟩ := zi_bind h
    refine zv_cv hB (zv_emq (va2 := [.inr 0, .inl (zi_w ((zi_w (24 * x2)) + x1))]) (F := [.inl f0]) (F' := [.inl f0]) (G := [g0, g1, g2, g3, g4, g5, g6]) (G' := [g0, g1, r3.2.1, g3, g4, g5, r3.2.2]) (ρ := [0, 1, 2, 3, 4, 5, 6, 7]) (φ := [0]) (ψ := [0, 1, 2, 3, 4, 5, 6]) [some 0] [some 0, some 1, some 2, some 3, some 4, some 5, some 6] zyw_M_seenFrom zyw_M_seen zye_M_seen (by decide +kernel) (zt_M_seenFrom hr3) ⟨⟨_, rfl, fun _ => rfl⟩, trivial⟩ ⟨rfl, rfl, rfl, rfl, rfl, rfl, rfl, trivial⟩ rfl rfl rfl rfl rfl rfl rfl) zd239_15 zxt240 rfl (by decide) (by decide) rfl ?_
    refine zv_goto hB zd239_18 rfl ?_
    have hw := Option.some.inj h
    subst hw
    exact hret _ _ _ _ _ zd239_22 (by trivial) ⟨rfl, rfl, rfl⟩
/-! M_isDrawn (III)Z -/
-- names: 0 StarTalesModel('arg', 0), 1 (0, 13)(0, 12, 26), 2 (0, 422)(0, 12, 0), 3 (0, 14)(0, 12, 21), 4 (0, 14)(0, 12, 23), 5 (0, 14)(0, 12, 24), 6 (0, 220)(0, 12, 20), 7 (0, 220)(0, 12, 25)
-- fields: f0 = 0.clauses_; arrays: g0 = 1, g1 = 2, g2 = 3, g3 = 4, g4 = 5, g5 = 6, g6 = 7; out: [('ret', None), ('g', 0), ('g', 6)]
abbrev zy_M_isDrawn : zNL := (8, [(0, 12)], [(0, 12, 13, 0)], [(0, 12, 26, 1), (0, 12, 0, 2), (0, 12, 21, 3), (0, 12, 23, 4), (0, 12, 24, 5), (0, 12, 20, 6), (0, 12, 25, 7)], [(1, 0, 13, 0), (2, 0, 422, 1), (3, 0, 14, 2), (4, 0, 14, 3), (5, 0, 14, 4), (6, 0, 220, 5), (7, 0, 220, 6)])
theorem zyw_M_isDrawn : zv_wf zy_M_isDrawn = true := by decide +kernel
theorem zye_M_isDrawn : zv_ek2 zy_M_isDrawn = true := by decide +kernel
def zf_M_isDrawn (x1 : Int) (x2 : Int) (x3 : Int) (f0 : Int) (g0 : (Int → Int)) (g1 : (Int → Int)) (g2 : (Int → Int)) (g3 : (Int → Int)) (g4 : (Int → Int)) (g5 : (Int → Int)) (g6 : (Int → Int)) : Option (Int × (Int → Int) × (Int → Int)) := (zf_M_feelsStar x2 g0 g1).bind fun r1 => (cond (zi_ix (zi_w (48 + x3)) 422) (cond (zi_ix (zi_w (24 + x3)) 422) ((zf_M_standsAt x3 g1).bind fun r4 => ((zf_M_standsAt x2 g1).bind fun r5 => (cond (zi_ix (zi_w (24 + x2)) 422) ((zf_M_standsAt x3 g1).bind fun r7 => ((zf_M_way r5 (g1 (zi_w (24 + x2))) r7 (g1 (zi_w (24 + x3)))).bind fun r8 => ((zf_M_anyOf 106 f0 g2 g3 g4 g5 g6 (zv_up (zv_up (zv_up (zv_up (zv_up (zv_up (zv_up r1 6 x3) 7 (g1 (zi_w (48 + x3)))) 8 (g1 (zi_w (24 + x3)))) 9 r4) 10 (zi_rem x1 24)) 11 (zi_div x1 24)) 12 r8)).bind fun r9 => (cond (zi_bo r9.1) (some (r9.1, (zv_up (zv_up (zv_up (zv_up (zv_up (zv_up (zv_up r1 6 x3) 7 (g1 (zi_w (48 + x3)))) 8 (g1 (zi_w (24 + x3)))) 9 r4) 10 (zi_rem x1 24)) 11 (zi_div x1 24)) 12 r8), r9.2)) none)))) none))) none) none)
theorem zd253_0 : decode zxm253.2.1 0 = .ok (.aload_n 0, 1) := by decide +kernel
theorem zd253_1 : decode zxm253.2.1 1 = .ok (.iload_n 2, 1) := by decide +kernel
theorem zd253_2 : decode zxm253.2.1 2 = .ok (.invokevirtual 287, 3) := by decide +kernel
theorem zd253_5 : decode zxm253.2.1 5 = .ok (.aload_n 0, 1) := by decide +kernel
theorem zd253_6 : decode zxm253.2.1 6 = .ok (.getfield 59, 3) := by decide +kernel
theorem zd253_9 : decode zxm253.2.1 9 = .ok (.bipush 6, 2) := by decide +kernel
theorem zd253_11 : decode zxm253.2.1 11 = .ok (.iload_n 3, 1) := by decide +kernel
theorem zd253_12 : decode zxm253.2.1 12 = .ok (.iastore, 1) := by decide +kernel
theorem zd253_13 : decode zxm253.2.1 13 = .ok (.aload_n 0, 1) := by decide +kernel
theorem zd253_14 : decode zxm253.2.1 14 = .ok (.getfield 59, 3) := by decide +kernel
theorem zd253_17 : decode zxm253.2.1 17 = .ok (.bipush 7, 2) := by decide +kernel
theorem zd253_19 : decode zxm253.2.1 19 = .ok (.aload_n 0, 1) := by decide +kernel
theorem zd253_20 : decode zxm253.2.1 20 = .ok (.getfield 7, 3) := by decide +kernel
theorem zd253_23 : decode zxm253.2.1 23 = .ok (.bipush 48, 2) := by decide +kernel
theorem zd253_25 : decode zxm253.2.1 25 = .ok (.iload_n 3, 1) := by decide +kernel
theorem zd253_26 : decode zxm253.2.1 26 = .ok (.iadd, 1) := by decide +kernel
theorem zd253_27 : decode zxm253.2.1 27 = .ok (.iaload, 1) := by decide +kernel
theorem zd253_28 : decode zxm253.2.1 28 = .ok (.iastore, 1) := by decide +kernel
theorem zd253_29 : decode zxm253.2.1 29 = .ok (.aload_n 0, 1) := by decide +kernel
theorem zd253_30 : decode zxm253.2.1 30 = .ok (.getfield 59, 3) := by decide +kernel
theorem zd253_33 : decode zxm253.2.1 33 = .ok (.bipush 8, 2) := by decide +kernel
theorem zd253_35 : decode zxm253.2.1 35 = .ok (.aload_n 0, 1) := by decide +kernel
theorem zd253_36 : decode zxm253.2.1 36 = .ok (.getfield 7, 3) := by decide +kernel
theorem zd253_39 : decode zxm253.2.1 39 = .ok (.bipush 24, 2) := by decide +kernel
theorem zd253_41 : decode zxm253.2.1 41 = .ok (.iload_n 3, 1) := by decide +kernel
theorem zd253_42 : decode zxm253.2.1 42 = .ok (.iadd, 1) := by decide +kernel
theorem zd253_43 : decode zxm253.2.1 43 = .ok (.iaload, 1) := by decide +kernel
theorem zd253_44 : decode zxm253.2.1 44 = .ok (.iastore, 1) := by decide +kernel
theorem zd253_45 : decode zxm253.2.1 45 = .ok (.aload_n 0, 1) := by decide +kernel
theorem zd253_46 : decode zxm253.2.1 46 = .ok (.getfield 59, 3) := by decide +kernel
theorem zd253_49 : decode zxm253.2.1 49 = .ok (.bipush 9, 2) := by decide +kernel
theorem zd253_51 : decode zxm253.2.1 51 = .ok (.aload_n 0, 1) := by decide +kernel
theorem zd253_52 : decode zxm253.2.1 52 = .ok (.iload_n 3, 1) := by decide +kernel
theorem zd253_53 : decode zxm253.2.1 53 = .ok (.invokevirtual 281, 3) := by decide +kernel
theorem zd253_56 : decode zxm253.2.1 56 = .ok (.iastore, 1) := by decide +kernel
theorem zd253_57 : decode zxm253.2.1 57 = .ok (.aload_n 0, 1) := by decide +kernel
theorem zd253_58 : decode zxm253.2.1 58 = .ok (.getfield 59, 3) := by decide +kernel
theorem zd253_61 : decode zxm253.2.1 61 = .ok (.bipush 10, 2) := by decide +kernel
theorem zd253_63 : decode zxm253.2.1 63 = .ok (.iload_n 1, 1) := by decide +kernel
theorem zd253_64 : decode zxm253.2.1 64 = .ok (.bipush 24, 2) := by decide +kernel
theorem zd253_66 : decode zxm253.2.1 66 = .ok (.irem, 1) := by decide +kernel
theorem zd253_67 : decode zxm253.2.1 67 = .ok (.iastore, 1) := by decide +kernel
theorem zd253_68 : decode zxm253.2.1 68 = .ok (.aload_n 0, 1) := by decide +kernel
theorem zd253_69 : decode zxm253.2.1 69 = .ok (.getfield 59, 3) := by decide +kernel
theorem zd253_72 : decode zxm253.2.1 72 = .ok (.bipush 11, 2) := by decide +kernel
theorem zd253_74 : decode zxm253.2.1 74 = .ok (.iload_n 1, 1) := by decide +kernel
theorem zd253_75 : decode zxm253.2.1 75 = .ok (.bipush 24, 2) := by decide +kernel
theorem zd253_77 : decode zxm253.2.1 77 = .ok (.idiv, 1) := by decide +kernel
theorem zd253_78 : decode zxm253.2.1 78 = .ok (.iastore, 1) := by decide +kernel
theorem zd253_79 : decode zxm253.2.1 79 = .ok (.aload_n 0, 1) := by decide +kernel
theorem zd253_80 : decode zxm253.2.1 80 = .ok (.getfield 59, 3) := by decide +kernel
theorem zd253_83 : decode zxm253.2.1 83 = .ok (.bipush 12, 2) := by decide +kernel
theorem zd253_85 : decode zxm253.2.1 85 = .ok (.aload_n 0, 1) := by decide +kernel
theorem zd253_86 : decode zxm253.2.1 86 = .ok (.iload_n 2, 1) := by decide +kernel
theorem zd253_87 : decode zxm253.2.1 87 = .ok (.invokevirtual 281, 3) := by decide +kernel
theorem zd253_90 : decode zxm253.2.1 90 = .ok (.aload_n 0, 1) := by decide +kernel
theorem zd253_91 : decode zxm253.2.1 91 = .ok (.getfield 7, 3) := by decide +kernel
theorem zd253_94 : decode zxm253.2.1 94 = .ok (.bipush 24, 2) := by decide +kernel
theorem zd253_96 : decode zxm253.2.1 96 = .ok (.iload_n 2, 1) := by decide +kernel
theorem zd253_97 : decode zxm253.2.1 97 = .ok (.iadd, 1) := by decide +kernel
theorem zd253_98 : decode zxm253.2.1 98 = .ok (.iaload, 1) := by decide +kernel
theorem zd253_99 : decode zxm253.2.1 99 = .ok (.aload_n 0, 1) := by decide +kernel
theorem zd253_100 : decode zxm253.2.1 100 = .ok (.iload_n 3, 1) := by decide +kernel
theorem zd253_101 : decode zxm253.2.1 101 = .ok (.invokevirtual 281, 3) := by decide +kernel
theorem zd253_104 : decode zxm253.2.1 104 = .ok (.aload_n 0, 1) := by decide +kernel
theorem zd253_105 : decode zxm253.2.1 105 = .ok (.getfield 7, 3) := by decide +kernel
theorem zd253_108 : decode zxm253.2.1 108 = .ok (.bipush 24, 2) := by decide +kernel
theorem zd253_110 : decode zxm253.2.1 110 = .ok (.iload_n 3, 1) := by decide +kernel
theorem zd253_111 : decode zxm253.2.1 111 = .ok (.iadd, 1) := by decide +kernel
theorem zd253_112 : decode zxm253.2.1 112 = .ok (.iaload, 1) := by decide +kernel
theorem zd253_113 : decode zxm253.2.1 113 = .ok (.invokestatic 290, 3) := by decide +kernel
theorem zd253_116 : decode zxm253.2.1 116 = .ok (.iastore, 1) := by decide +kernel
theorem zd253_117 : decode zxm253.2.1 117 = .ok (.aload_n 0, 1) := by decide +kernel
theorem zd253_118 : decode zxm253.2.1 118 = .ok (.bipush 106, 2) := by decide +kernel
theorem zd253_120 : decode zxm253.2.1 120 = .ok (.invokevirtual 294, 3) := by decide +kernel
theorem zd253_123 : decode zxm253.2.1 123 = .ok (.ireturn, 1) := by decide +kernel
theorem zt_M_isDrawn {x1 : Int} {x2 : Int} {x3 : Int} {f0 : Int} {g0 : (Int → Int)} {g1 : (Int → Int)} {g2 : (Int → Int)} {g3 : (Int → Int)} {g4 : (Int → Int)} {g5 : (Int → Int)} {g6 : (Int → Int)} {o : Int × (Int → Int) × (Int → Int)} (h : zf_M_isDrawn x1 x2 x3 f0 g0 g1 g2 g3 g4 g5 g6 = some o) : zv_Fn z_TB z_cl z_KX zy_M_isDrawn zxm253 (3, 180) [.inr 0, .inl x1, .inl x2, .inl x3] [.inl f0] [g0, g1, g2, g3, g4, g5, g6] (some o.1) [.inl f0] [o.2.1, g1, g2, g3, g4, g5, o.2.2] := zv_meth (K := (z_KF13, z_KC13, z_KL13, z_KT13, [], [], [], none)) (FT := z_FT) (MT := z_MT) (n := 4) zxp253 (z_ks13 _ (fun _ h => List.mem_cons_of_mem _ h) _ _ _ _ (fun j r h _ => by cases h)) (fun _ _ => zs_KX_p) zyw_M_isDrawn (fun va F G h => by obtain ⟨rfl, _⟩ := h; rfl) (fun va F G h => by obtain ⟨rfl, _⟩ := h; rfl) rfl fun good va F G hB hret hvret hP => by
  obtain ⟨rfl, rfl, rfl⟩ := hP
  unfold zf_M_isDrawn at h
  refine zv_ald hB zd253_0 rfl rfl rfl ?_
  refine zv_ild hB zd253_1 rfl rfl ?_
  obtain ⟨r1, hr1, h⟩ := zi_bind h
  refine zv_cv hB (zv_emq (va2 := [.inr 0, .inl x2]) (F := [.inl f0]) (F' := [.inl f0]) (G := [g0, g1, g2, g3, g4, g5, g6]) (G' := [r1, g1, g2, g3, g4, g5, g6]) (ρ := [0, 1, 2]) (φ := []) (ψ := [0, 1]) [none] [some 0, some 1, none, none, none, none, none] zyw_M_feelsStar zyw_M_isDrawn zye_M_isDrawn (by decide +kernel) (zt_M_feelsStar hr1) trivial ⟨rfl, rfl, trivial⟩ rfl rfl rfl rfl rfl rfl rfl) zd253_2 zxt245 rfl (by decide) (by decide) rfl ?_
  refine zv_ald hB zd253_5 rfl rfl rfl ?_
  refine zv_getr hB zd253_6 rfl ?_
  refine zv_con hB zd253_9 rfl ?_
  refine zv_ild hB zd253_11 rfl rfl ?_
  refine zv_iast hB zd253_12 rfl rfl (by decide) (by decide) ?_
  refine zv_ald hB zd253_13 rfl rfl rfl ?_
  refine zv_getr hB zd253_14 rfl ?_
  refine zv_con hB zd253_17 rfl ?_
  refine zv_ald hB zd253_19 rfl rfl rfl ?_
  refine zv_getr hB zd253_20 rfl ?_
  refine zv_con hB zd253_23 rfl ?_
  refine zv_ild hB zd253_25 rfl rfl ?_
  refine zv_addw hB zd253_26 ?_
  obtain ⟨c2, h⟩ := zi_if h
  refine zv_iald hB zd253_27 rfl rfl (zi_ix_ok c2).1 (zi_ix_ok c2).2 (fun _ _ => ?_)
  refine zv_iast hB zd253_28 rfl rfl (by decide) (by decide) ?_
  refine zv_ald hB zd253_29 rfl rfl rfl ?_
  refine zv_getr hB zd253_30 rfl ?_
  refine zv_con hB zd253_33 rfl ?_
  refine zv_ald hB zd253_35 rfl rfl rfl ?_
  refine zv_getr hB zd253_36 rfl ?_
  refine zv_con hB zd253_39 rfl ?_
  refine zv_ild hB zd253_41 rfl rfl ?_
  refine zv_addw hB zd253_42 ?_
  obtain ⟨c3, h⟩ := zi_if h
  refine zv_iald hB zd253_43 rfl rfl (zi_ix_ok c3).1 (zi_ix_ok c3).2 (fun _ _ => ?_)
  refine zv_iast hB zd253_44 rfl rfl (by decide) (by decide) ?_
  refine zv_ald hB zd253_45 rfl rfl rfl ?_
  refine zv_getr hB zd253_46 rfl ?_
  refine zv_con hB zd253_49 rfl ?_
  refine zv_ald hB zd253_51 rfl rfl rfl ?_
  refine zv_ild hB zd253_52 rfl rfl ?_
  obtain ⟨r4, hr4, h⟩ := zi_bind h
  refine zv_cv hB (zv_emq (va2 := [.inr 0, .inl x3]) (F := [.inl f0]) (F' := [.inl f0]) (G := [(zv_up (zv_up (zv_up r1 6 x3) 7 (g1 (zi_w (48 + x3)))) 8 (g1 (zi_w (24 + x3)))), g1, g2, g3, g4, g5, g6]) (G' := [(zv_up (zv_up (zv_up r1 6 x3) 7 (g1 (zi_w (48 + x3)))) 8 (g1 (zi_w (24 + x3)))), g1, g2, g3, g4, g5, g6]) (ρ := [0, 2]) (φ := []) (ψ := [1]) [none] [none, some 0, none, none, none, none, none] zyw_M_standsAt zyw_M_isDrawn zye_M_isDrawn (by decide +kernel) (zt_M_standsAt hr4) trivial ⟨rfl, trivial⟩ rfl rfl rfl rfl rfl rfl rfl) zd253_53 zxt238 rfl (by decide) (by decide) rfl ?_
  refine zv_iast hB zd253_56 rfl rfl (by decide) (by decide) ?_
  refine zv_ald hB zd253_57 rfl rfl rfl ?_
  refine zv_getr hB zd253_58 rfl ?_
  refine zv_con hB zd253_61 rfl ?_
  refine zv_ild hB zd253_63 rfl rfl ?_
  refine zv_con hB zd253_64 rfl ?_
  refine zv_remw hB zd253_66 (by decide) ?_
  refine zv_iast hB zd253_67 rfl rfl (by decide) (by decide) ?_
  refine zv_ald hB zd253_68 rfl rfl rfl ?_
  refine zv_getr hB zd253_69 rfl ?_
  refine zv_con hB zd253_72 rfl ?_
  refine zv_ild hB zd253_74 rfl rfl ?_
  refine zv_con hB zd253_75 rfl ?_
  refine zv_divw hB zd253_77 (by decide) ?_
  refine zv_iast hB zd253_78 rfl rfl (by decide) (by decide) ?_
  refine zv_ald hB zd253_79 rfl rfl rfl ?_
  refine zv_getr hB zd253_80 rfl ?_
  refine zv_con hB zd253_83 rfl ?_
  refine zv_ald hB zd253_85 rfl rfl rfl ?_
  refine zv_ild hB zd253_86 rfl rfl ?_
  obtain ⟨r5, hr5, h⟩ := zi_bind h
  refine zv_cv hB (zv_emq (va2 := [.inr 0, .inl x2]) (F := [.inl f0]) (F' := [.inl f0]) (G := [(zv_up (zv_up (zv_up (zv_up (zv_up (zv_up r1 6 x3) 7 (g1 (zi_w (48 + x3)))) 8 (g1 (zi_w (24 + x3)))) 9 r4) 10 (zi_rem x1 24)) 11 (zi_div x1 24)), g1, g2, g3, g4, g5, g6]) (G' := [(zv_up (zv_up (zv_up (zv_up (zv_up (zv_up r1 6 x3) 7 (g1 (zi_w (48 + x3)))) 8 (g1 (zi_w (24 + x3)))) 9 r4) 10 (zi_rem x1 24)) 11 (zi_div x1 24)), g1, g2, g3, g4, g5, g6]) (ρ := [0, 2]) (φ := []) (ψ := [1]) [none] [none, some 0, none, none, none, none, none] zyw_M_standsAt zyw_M_isDrawn zye_M_isDrawn (by decide +kernel) (zt_M_standsAt hr5) trivial ⟨rfl, trivial⟩ rfl rfl rfl rfl rfl rfl rfl) zd253_87 zxt238 rfl (by decide) (by decide) rfl ?_
  refine zv_ald hB zd253_90 rfl rfl rfl ?_
  refine zv_getr hB zd253_91 rfl ?_
  refine zv_con hB zd253_94 rfl ?_
  refine zv_ild hB zd253_96 rfl rfl ?_
  refine zv_addw hB zd253_97 ?_
  obtain ⟨c6, h⟩ := zi_if h
  refine zv_iald hB zd253_98 rfl rfl (zi_ix_ok c6).1 (zi_ix_ok c6).2 (fun _ _ => ?_)
  refine zv_ald hB zd253_99 rfl rfl rfl ?_
  refine zv_ild hB zd253_100 rfl rfl ?_
  obtain ⟨r7, hr7, h⟩ := zi_bind h
  refine zv_cv hB (zv_emq (va2 := [.inr 0, .inl x3]) (F := [.inl f0]) (F' := [.inl f0]) (G := [(zv_up (zv_up (zv_up (zv_up (zv_up (zv_up r1 6 x3) 7 (g1 (zi_w (48 + x3)))) 8 (g1 (zi_w (24 + x3)))) 9 r4) 10 (zi_rem x1 24)) 11 (zi_div x1 24)), g1, g2, g3, g4, g5, g6]) (G' := [(zv_up (zv_up (zv_up (zv_up (zv_up (zv_up r1 6 x3) 7 (g1 (zi_w (48 + x3)))) 8 (g1 (zi_w (24 + x3)))) 9 r4) 10 (zi_rem x1 24)) 11 (zi_div x1 24)), g1, g2, g3, g4, g5, g6]) (ρ := [0, 2]) (φ := []) (ψ := [1]) [none] [none, some 0, none, none, none, none, none] zyw_M_standsAt zyw_M_isDrawn zye_M_isDrawn (by decide +kernel) (zt_M_standsAt hr7) trivial ⟨rfl, trivial⟩ rfl rfl rfl rfl rfl rfl rfl) zd253_101 zxt238 rfl (by decide) (by decide) rfl ?_
  refine zv_ald hB zd253_104 rfl rfl rfl ?_
  refine zv_getr hB zd253_105 rfl ?_
  refine zv_con hB zd253_108 rfl ?_
  refine zv_ild hB zd253_110 rfl rfl ?_
  refine zv_addw hB zd253_111 ?_
  refine zv_iald hB zd253_112 rfl rfl (zi_ix_ok c3).1 (zi_ix_ok c3).2 (fun _ _ => ?_)
  obtain ⟨r8, hr8, h⟩ := zi_bind h
  refine zv_cs hB (zv_emq (va2 := [.inl r5, .inl (g1 (zi_w (24 + x2))), .inl r7, .inl (g1 (zi_w (24 + x3)))]) (F := [.inl f0]) (F' := [.inl f0]) (G := [(zv_up (zv_up (zv_up (zv_up (zv_up (zv_up r1 6 x3) 7 (g1 (zi_w (48 + x3)))) 8 (g1 (zi_w (24 + x3)))) 9 r4) 10 (zi_rem x1 24)) 11 (zi_div x1 24)), g1, g2, g3, g4, g5, g6]) (G' := [(zv_up (zv_up (zv_up (zv_up (zv_up (zv_up r1 6 x3) 7 (g1 (zi_w (48 + x3)))) 8 (g1 (zi_w (24 + x3)))) 9 r4) 10 (zi_rem x1 24)) 11 (zi_div x1 24)), g1, g2, g3, g4, g5, g6]) (ρ := []) (φ := []) (ψ := []) [none] [none, none, none, none, none, none, none] zyw_M_way zyw_M_isDrawn zye_M_isDrawn (by decide +kernel) (zt_M_way hr8) trivial trivial rfl rfl rfl rfl rfl rfl rfl) zd253_113 zxt247 rfl (by decide) (by decide) rfl ?_
  refine zv_iast hB zd253_116 rfl rfl (by decide) (by decide) ?_
  refine zv_ald hB zd253_117 rfl rfl rfl ?_
  refine zv_con hB zd253_118 rfl ?_
  obtain ⟨r9, hr9, h⟩ := zi_bind h
  refine zv_cv hB (zv_emq (va2 := [.inr 0, .inl 106]) (F := [.inl f0]) (F' := [.inl f0]) (G := [(zv_up (zv_up (zv_up (zv_up (zv_up (zv_up (zv_up r1 6 x3) 7 (g1 (zi_w (48 + x3)))) 8 (g1 (zi_w (24 + x3)))) 9 r4) 10 (zi_rem x1 24)) 11 (zi_div x1 24)) 12 r8), g1, g2, g3, g4, g5, g6]) (G' := [(zv_up (zv_up (zv_up (zv_up (zv_up (zv_up (zv_up r1 6 x3) 7 (g1 (zi_w (48 + x3)))) 8 (g1 (zi_w (24 + x3)))) 9 r4) 10 (zi_rem x1 24)) 11 (zi_div x1 24)) 12 r8), g1, g2, g3, g4, g5, r9.2]) (ρ := [0, 3, 4, 5, 6, 7, 1]) (φ := [0]) (ψ := [2, 3, 4, 5, 6, 0]) [some 0] [some 5, none, some 0, some 1, some 2, some 3, some 4] zyw_M_anyOf zyw_M_isDrawn zye_M_isDrawn (by decide +kernel) (zt_M_anyOf hr9) ⟨⟨_, rfl, fun _ => rfl⟩, trivial⟩ ⟨rfl, rfl, rfl, rfl, rfl, rfl, trivial⟩ rfl rfl rfl rfl rfl rfl rfl) zd253_120 zxt248 rfl (by decide) (by decide) rfl ?_
  obtain ⟨c10, h⟩ := zi_if h
  have hw := Option.some.inj h
  subst hw
  exact hret _ _ _ _ _ zd253_123 (zi_bo_ok c10) ⟨rfl, rfl, rfl⟩
