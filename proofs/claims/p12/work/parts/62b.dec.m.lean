/-! 62b.dec, 62c.dec -/
section
/-! Methods as functions, and that they do what these do. -/
/-! M_anyOf (I)Z -/
-- names: 0 StarTalesModel('arg', 0), 1 (0, 14)(0, 12, 21), 2 (0, 14)(0, 12, 23), 3 (0, 14)(0, 12, 24), 4 (0, 220)(0, 12, 20), 5 (0, 220)(0, 12, 25), 6 (0, 13)(0, 12, 26)
-- fields: f0 = 0.clauses_; arrays: g0 = 1, g1 = 2, g2 = 3, g3 = 4, g4 = 5, g5 = 6; out: [('ret', None), ('g', 4)]
abbrev zy_M_anyOf : zNL := (7, [(0, 12)], [(0, 12, 13, 0)], [(0, 12, 21, 1), (0, 12, 23, 2), (0, 12, 24, 3), (0, 12, 20, 4), (0, 12, 25, 5), (0, 12, 26, 6)], [(1, 0, 14, 0), (2, 0, 14, 1), (3, 0, 14, 2), (4, 0, 220, 3), (5, 0, 220, 4), (6, 0, 13, 5)])
theorem zyw_M_anyOf : zv_wf zy_M_anyOf = true := by decide +kernel
theorem zye_M_anyOf : zv_ek2 zy_M_anyOf = true := by decide +kernel
def zf_M_anyOf_l0_b (x1 : Int) (f0 : Int) (g0 : (Int → Int)) (g1 : (Int → Int)) (g2 : (Int → Int)) (g3 : (Int → Int)) (g5 : (Int → Int)) (rec : Int → (Int → Int) → Option ((((Int → Int)) ⊕ (Int × (Int → Int))))) (x2 : Int) (g4 : (Int → Int)) : Option ((((Int → Int)) ⊕ (Int × (Int → Int)))) := if x2 < f0 then (cond (zi_ix x2 14) (if (g0 x2) = x1 then ((zf_M_comesTo (g1 x2) (g2 x2) g3 g4 g5).bind fun r4 => (if r4.1 = 1 then (some (.inr (1, r4.2))) else (rec (zi_w (x2 + 1)) r4.2))) else (rec (zi_w (x2 + 1)) g4)) none) else (some (.inl g4))
def zf_M_anyOf_l0 (x1 : Int) (f0 : Int) (g0 : (Int → Int)) (g1 : (Int → Int)) (g2 : (Int → Int)) (g3 : (Int → Int)) (g5 : (Int → Int)) : Nat → Int → (Int → Int) → Option ((((Int → Int)) ⊕ (Int × (Int → Int))))
  | 0, _, _ => none
  | n + 1, x2, g4 => zf_M_anyOf_l0_b x1 f0 g0 g1 g2 g3 g5 (zf_M_anyOf_l0 x1 f0 g0 g1 g2 g3 g5 n) x2 g4
def zf_M_anyOf (x1 : Int) (f0 : Int) (g0 : (Int → Int)) (g1 : (Int → Int)) (g2 : (Int → Int)) (g3 : (Int → Int)) (g4 : (Int → Int)) (g5 : (Int → Int)) : Option (Int × (Int → Int)) := (zf_M_anyOf_l0 x1 f0 g0 g1 g2 g3 g5 zi_fu 0 g4).bind fun q6 => Sum.elim (fun e7 => (some (0, e7))) (fun w8 => some w8) q6
theorem zd248_0 : decode zxm248.2.1 0 = .ok (.iconst 0, 1) := by decide +kernel
theorem zd248_1 : decode zxm248.2.1 1 = .ok (.istore_n 2, 1) := by decide +kernel
theorem zd248_2 : decode zxm248.2.1 2 = .ok (.iload_n 2, 1) := by decide +kernel
theorem zd248_3 : decode zxm248.2.1 3 = .ok (.aload_n 0, 1) := by decide +kernel
theorem zd248_4 : decode zxm248.2.1 4 = .ok (.getfield 268, 3) := by decide +kernel
theorem zd248_7 : decode zxm248.2.1 7 = .ok (.if_icmp .ge 41, 3) := by decide +kernel
theorem zd248_10 : decode zxm248.2.1 10 = .ok (.aload_n 0, 1) := by decide +kernel
theorem zd248_11 : decode zxm248.2.1 11 = .ok (.getfield 44, 3) := by decide +kernel
theorem zd248_14 : decode zxm248.2.1 14 = .ok (.iload_n 2, 1) := by decide +kernel
theorem zd248_15 : decode zxm248.2.1 15 = .ok (.iaload, 1) := by decide +kernel
theorem zd248_16 : decode zxm248.2.1 16 = .ok (.iload_n 1, 1) := by decide +kernel
theorem zd248_17 : decode zxm248.2.1 17 = .ok (.if_icmp .ne 25, 3) := by decide +kernel
theorem zd248_20 : decode zxm248.2.1 20 = .ok (.aload_n 0, 1) := by decide +kernel
theorem zd248_21 : decode zxm248.2.1 21 = .ok (.aload_n 0, 1) := by decide +kernel
theorem zd248_22 : decode zxm248.2.1 22 = .ok (.getfield 50, 3) := by decide +kernel
theorem zd248_25 : decode zxm248.2.1 25 = .ok (.iload_n 2, 1) := by decide +kernel
theorem zd248_26 : decode zxm248.2.1 26 = .ok (.iaload, 1) := by decide +kernel
theorem zd248_27 : decode zxm248.2.1 27 = .ok (.aload_n 0, 1) := by decide +kernel
theorem zd248_28 : decode zxm248.2.1 28 = .ok (.getfield 53, 3) := by decide +kernel
theorem zd248_31 : decode zxm248.2.1 31 = .ok (.iload_n 2, 1) := by decide +kernel
theorem zd248_32 : decode zxm248.2.1 32 = .ok (.iaload, 1) := by decide +kernel
theorem zd248_33 : decode zxm248.2.1 33 = .ok (.invokevirtual 275, 3) := by decide +kernel
theorem zd248_36 : decode zxm248.2.1 36 = .ok (.iconst 1, 1) := by decide +kernel
theorem zd248_37 : decode zxm248.2.1 37 = .ok (.if_icmp .ne 5, 3) := by decide +kernel
theorem zd248_40 : decode zxm248.2.1 40 = .ok (.iconst 1, 1) := by decide +kernel
theorem zd248_41 : decode zxm248.2.1 41 = .ok (.ireturn, 1) := by decide +kernel
theorem zd248_42 : decode zxm248.2.1 42 = .ok (.iinc 2 1, 3) := by decide +kernel
theorem zd248_45 : decode zxm248.2.1 45 = .ok (.goto (-43), 3) := by decide +kernel
theorem zd248_48 : decode zxm248.2.1 48 = .ok (.iconst 0, 1) := by decide +kernel
theorem zd248_49 : decode zxm248.2.1 49 = .ok (.ireturn, 1) := by decide +kernel
theorem zt_M_anyOf {x1 : Int} {f0 : Int} {g0 : (Int → Int)} {g1 : (Int → Int)} {g2 : (Int → Int)} {g3 : (Int → Int)} {g4 : (Int → Int)} {g5 : (Int → Int)} {o : Int × (Int → Int)} (h : zf_M_anyOf x1 f0 g0 g1 g2 g3 g4 g5 = some o) : zv_Fn z_TB z_cl z_KX zy_M_anyOf zxm248 (2, 120) [.inr 0, .inl x1] [.inl f0] [g0, g1, g2, g3, g4, g5] (some o.1) [.inl f0] [g0, g1, g2, g3, o.2, g5] := zv_meth (K := (z_KF13, z_KC13, z_KL13, z_KT13, [], [], [], none)) (FT := z_FT) (MT := z_MT) (n := 2) zxp248 (z_ks13 _ (fun _ h => List.mem_cons_of_mem _ h) _ _ _ _ (fun j r h _ => by cases h)) (fun _ _ => zs_KX_p) zyw_M_anyOf (fun va F G h => by obtain ⟨rfl, _⟩ := h; rfl) (fun va F G h => by obtain ⟨rfl, _⟩ := h; rfl) rfl fun good va F G hB hret hvret hP => by
  obtain ⟨rfl, rfl, rfl⟩ := hP
  have l0 : ∀ (n : Nat) (x1 : Int) (x2 : Int) (g4 : (Int → Int)) (q : (((Int → Int)) ⊕ (Int × (Int → Int)))), zf_M_anyOf_l0 x1 f0 g0 g1 g2 g3 g5 n x2 g4 = some q → (Sum.elim (fun e : (Int → Int) => good 48 [.inr 1000, .inr 1000, .inr 1000] [] [.inl f0] [g0, g1, g2, g3, e, g5]) (fun w : Int × (Int → Int) => w = o) q) → good 2 [.inr 0, .inl x1, .inl x2] [] [.inl f0] [g0, g1, g2, g3, g4, g5] := by
    intro n
    induction n with
    | zero => intro x1 x2 g4 q h; exact absurd (show none = some q from h) (fun h => by cases h)
    | succ n ih =>
      intro x1 x2 g4 q h hK
      replace h : zf_M_anyOf_l0_b x1 f0 g0 g1 g2 g3 g5 (zf_M_anyOf_l0 x1 f0 g0 g1 g2 g3 g5 n) x2 g4 = some q := h
      unfold zf_M_anyOf_l0_b at h
      refine zv_ild hB zd248_2 rfl rfl ?_
      refine zv_ald hB zd248_3 rfl rfl rfl ?_
      refine zv_getf hB zd248_4 rfl rfl (fun _ _ => ?_)
      refine zv_cge hB zd248_7 rfl (fun hc1 => ?_) (fun hc1 => ?_)
      · rw [if_neg (Int.not_lt.mpr hc1)] at h
        have hq := Option.some.inj h
        subst hq
        refine zv_wk hB (L' := [.inr 1000, .inr 1000, .inr 1000]) (F' := [.inl f0]) ⟨fun (h : zv_is (.inr 1000)) => (Nat.lt_irrefl 1000 h).elim, fun (h : zv_is (.inr 1000)) => (Nat.lt_irrefl 1000 h).elim, fun (h : zv_is (.inr 1000)) => (Nat.lt_irrefl 1000 h).elim, trivial⟩ ⟨fun _ => rfl, trivial⟩ ?_
        exact hK
      · rw [if_pos hc1] at h
        refine zv_ald hB zd248_10 rfl rfl rfl ?_
        refine zv_getr hB zd248_11 rfl ?_
        refine zv_ild hB zd248_14 rfl rfl ?_
        obtain ⟨c2, h⟩ := zi_if h
        refine zv_iald hB zd248_15 rfl rfl (zi_ix_ok c2).1 (zi_ix_ok c2).2 (fun _ _ => ?_)
        refine zv_ild hB zd248_16 rfl rfl ?_
        refine zv_cne hB zd248_17 rfl (fun hc3 => ?_) (fun hc3 => ?_)
        · rw [if_neg hc3] at h
          refine zv_iincw hB zd248_42 rfl rfl ?_
          refine zv_goto hB zd248_45 rfl ?_
          exact ih _ _ _ q h hK
        · rw [if_pos hc3] at h
          refine zv_ald hB zd248_20 rfl rfl rfl ?_
          refine zv_ald hB zd248_21 rfl rfl rfl ?_
          refine zv_getr hB zd248_22 rfl ?_
          refine zv_ild hB zd248_25 rfl rfl ?_
          refine zv_iald hB zd248_26 rfl rfl (zi_ix_ok c2).1 (zi_ix_ok c2).2 (fun _ _ => ?_)
          refine zv_ald hB zd248_27 rfl rfl rfl ?_
          refine zv_getr hB zd248_28 rfl ?_
          refine zv_ild hB zd248_31 rfl rfl ?_
          refine zv_iald hB zd248_32 rfl rfl (zi_ix_ok c2).1 (zi_ix_ok c2).2 (fun _ _ => ?_)
          obtain ⟨r4, hr4, h⟩ := zi_bind h
          refine zv_cv hB (zv_emq (va2 := [.inr 0, .inl (g1 x2), .inl (g2 x2)]) (F := [.inl f0]) (F' := [.inl f0]) (G := [g0, g1, g2, g3, g4, g5]) (G' := [g0, g1, g2, g3, r4.2, g5]) (ρ := [0, 4, 5, 6]) (φ := []) (ψ := [3, 4, 5]) [none] [none, none, none, some 0, some 1, some 2] zyw_M_comesTo zyw_M_anyOf zye_M_anyOf (by decide +kernel) (zt_M_comesTo hr4) trivial ⟨rfl, rfl, rfl, trivial⟩ rfl rfl rfl rfl rfl rfl rfl) zd248_33 zxt249 rfl (by decide) (by decide) rfl ?_
          refine zv_con hB zd248_36 rfl ?_
          refine zv_cne hB zd248_37 rfl (fun hc5 => ?_) (fun hc5 => ?_)
          · rw [if_neg hc5] at h
            refine zv_iincw hB zd248_42 rfl rfl ?_
            refine zv_goto hB zd248_45 rfl ?_
            exact ih _ _ _ q h hK
          · rw [if_pos hc5] at h
            refine zv_con hB zd248_40 rfl ?_
            have hw : (1, r4.2) = o := zi_rk (Option.some.inj h) hK
            subst hw
            exact hret _ _ _ _ _ zd248_41 (by constructor <;> decide) ⟨rfl, rfl, rfl⟩
  unfold zf_M_anyOf at h
  refine zv_con hB zd248_0 rfl ?_
  refine zv_ist hB zd248_1 rfl rfl rfl ?_
  obtain ⟨q6, hq6, h⟩ := zi_bind h
  refine l0 _ _ _ _ q6 hq6 ?_
  rcases q6 with e7 | w8
  · replace h := zi_sl h
    show good 48 [.inr 1000, .inr 1000, .inr 1000] [] [.inl f0] [g0, g1, g2, g3, e7, g5]
    refine zv_con hB zd248_48 rfl ?_
    have hw := Option.some.inj h
    subst hw
    exact hret _ _ _ _ _ zd248_49 (by constructor <;> decide) ⟨rfl, rfl, rfl⟩
  · exact Option.some.inj h
/-! M_isSeen (II)Z -/
-- names: 0 StarTalesModel('arg', 0), 1 (0, 422)(0, 12, 0), 2 (0, 14)(0, 12, 21), 3 (0, 13)(0, 12, 26), 4 (0, 14)(0, 12, 23), 5 (0, 14)(0, 12, 24), 6 (0, 220)(0, 12, 20), 7 (0, 220)(0, 12, 25)
-- fields: f0 = 0.clauses_; arrays: g0 = 1, g1 = 2, g2 = 3, g3 = 4, g4 = 5, g5 = 6, g6 = 7; out: [('ret', None), ('g', 2), ('g', 6)]
abbrev zy_M_isSeen : zNL := (8, [(0, 12)], [(0, 12, 13, 0)], [(0, 12, 0, 1), (0, 12, 21, 2), (0, 12, 26, 3), (0, 12, 23, 4), (0, 12, 24, 5), (0, 12, 20, 6), (0, 12, 25, 7)], [(1, 0, 422, 0), (2, 0, 14, 1), (3, 0, 13, 2), (4, 0, 14, 3), (5, 0, 14, 4), (6, 0, 220, 5), (7, 0, 220, 6)])
theorem zyw_M_isSeen : zv_wf zy_M_isSeen = true := by decide +kernel
theorem zye_M_isSeen : zv_ek2 zy_M_isSeen = true := by decide +kernel
def zf_M_isSeen (x1 : Int) (x2 : Int) (f0 : Int) (g0 : (Int → Int)) (g1 : (Int → Int)) (g2 : (Int → Int)) (g3 : (Int → Int)) (g4 : (Int → Int)) (g5 : (Int → Int)) (g6 : (Int → Int)) : Option (Int × (Int → Int) × (Int → Int)) := (zf_M_standsAt x2 g0).bind fun r1 => ((zf_M_toRight (zi_rem x1 24) r1).bind fun r2 => ((zf_M_size r2).bind fun r3 => (if (g0 131) < r3 then (some (0, g2, g6)) else (cond (zi_ix (zi_w (24 + x2)) 422) ((zf_M_size (zi_w ((g0 (zi_w (24 + x2))) - (zi_div x1 24)))).bind fun r6 => (if (g0 132) < r6 then (some (0, g2, g6)) else ((zf_M_has (g0 130) r1).bind fun r8 => (if r8 = 0 then ((zf_M_hasClause 118 f0 g1).bind fun r10 => (if r10 = 0 then (some (1, g2, g6)) else ((zf_M_feelsStar x2 g2 g0).bind fun r12 => ((zf_M_way (zi_rem x1 24) (zi_div x1 24) r1 (g0 (zi_w (24 + x2)))).bind fun r13 => ((zf_M_anyOf 118 f0 g1 g3 g4 g5 g6 (zv_up (zv_up (zv_up r12 10 (zi_rem x1 24)) 11 (zi_div x1 24)) 12 r13)).bind fun r14 => (cond (zi_bo r14.1) (some (r14.1, (zv_up (zv_up (zv_up r12 10 (zi_rem x1 24)) 11 (zi_div x1 24)) 12 r13), r14.2)) none)))))) else (some (0, g2, g6)))))) none))))
theorem zd241_0 : decode zxm241.2.1 0 = .ok (.iload_n 1, 1) := by decide +kernel
theorem zd241_1 : decode zxm241.2.1 1 = .ok (.bipush 24, 2) := by decide +kernel
theorem zd241_3 : decode zxm241.2.1 3 = .ok (.irem, 1) := by decide +kernel
theorem zd241_4 : decode zxm241.2.1 4 = .ok (.istore_n 3, 1) := by decide +kernel
theorem zd241_5 : decode zxm241.2.1 5 = .ok (.iload_n 1, 1) := by decide +kernel
theorem zd241_6 : decode zxm241.2.1 6 = .ok (.bipush 24, 2) := by decide +kernel
theorem zd241_8 : decode zxm241.2.1 8 = .ok (.idiv, 1) := by decide +kernel
theorem zd241_9 : decode zxm241.2.1 9 = .ok (.istore 4, 2) := by decide +kernel
theorem zd241_11 : decode zxm241.2.1 11 = .ok (.aload_n 0, 1) := by decide +kernel
theorem zd241_12 : decode zxm241.2.1 12 = .ok (.iload_n 2, 1) := by decide +kernel
theorem zd241_13 : decode zxm241.2.1 13 = .ok (.invokevirtual 281, 3) := by decide +kernel
theorem zd241_16 : decode zxm241.2.1 16 = .ok (.istore 5, 2) := by decide +kernel
theorem zd241_18 : decode zxm241.2.1 18 = .ok (.iload_n 3, 1) := by decide +kernel
theorem zd241_19 : decode zxm241.2.1 19 = .ok (.iload 5, 2) := by decide +kernel
theorem zd241_21 : decode zxm241.2.1 21 = .ok (.invokestatic 142, 3) := by decide +kernel
theorem zd241_24 : decode zxm241.2.1 24 = .ok (.invokestatic 146, 3) := by decide +kernel
theorem zd241_27 : decode zxm241.2.1 27 = .ok (.aload_n 0, 1) := by decide +kernel
theorem zd241_28 : decode zxm241.2.1 28 = .ok (.getfield 7, 3) := by decide +kernel
theorem zd241_31 : decode zxm241.2.1 31 = .ok (.sipush 131, 3) := by decide +kernel
theorem zd241_34 : decode zxm241.2.1 34 = .ok (.iaload, 1) := by decide +kernel
theorem zd241_35 : decode zxm241.2.1 35 = .ok (.if_icmp .gt 45, 3) := by decide +kernel
theorem zd241_38 : decode zxm241.2.1 38 = .ok (.aload_n 0, 1) := by decide +kernel
theorem zd241_39 : decode zxm241.2.1 39 = .ok (.getfield 7, 3) := by decide +kernel
theorem zd241_42 : decode zxm241.2.1 42 = .ok (.bipush 24, 2) := by decide +kernel
theorem zd241_44 : decode zxm241.2.1 44 = .ok (.iload_n 2, 1) := by decide +kernel
theorem zd241_45 : decode zxm241.2.1 45 = .ok (.iadd, 1) := by decide +kernel
theorem zd241_46 : decode zxm241.2.1 46 = .ok (.iaload, 1) := by decide +kernel
theorem zd241_47 : decode zxm241.2.1 47 = .ok (.iload 4, 2) := by decide +kernel
theorem zd241_49 : decode zxm241.2.1 49 = .ok (.isub, 1) := by decide +kernel
theorem zd241_50 : decode zxm241.2.1 50 = .ok (.invokestatic 146, 3) := by decide +kernel
theorem zd241_53 : decode zxm241.2.1 53 = .ok (.aload_n 0, 1) := by decide +kernel
theorem zd241_54 : decode zxm241.2.1 54 = .ok (.getfield 7, 3) := by decide +kernel
theorem zd241_57 : decode zxm241.2.1 57 = .ok (.sipush 132, 3) := by decide +kernel
theorem zd241_60 : decode zxm241.2.1 60 = .ok (.iaload, 1) := by decide +kernel
theorem zd241_61 : decode zxm241.2.1 61 = .ok (.if_icmp .gt 19, 3) := by decide +kernel
theorem zd241_64 : decode zxm241.2.1 64 = .ok (.aload_n 0, 1) := by decide +kernel
theorem zd241_65 : decode zxm241.2.1 65 = .ok (.getfield 7, 3) := by decide +kernel
theorem zd241_68 : decode zxm241.2.1 68 = .ok (.sipush 130, 3) := by decide +kernel
theorem zd241_71 : decode zxm241.2.1 71 = .ok (.iaload, 1) := by decide +kernel
theorem zd241_72 : decode zxm241.2.1 72 = .ok (.iload 5, 2) := by decide +kernel
theorem zd241_74 : decode zxm241.2.1 74 = .ok (.invokestatic 138, 3) := by decide +kernel
theorem zd241_77 : decode zxm241.2.1 77 = .ok (.ifCond .eq 5, 3) := by decide +kernel
theorem zd241_80 : decode zxm241.2.1 80 = .ok (.iconst 0, 1) := by decide +kernel
theorem zd241_81 : decode zxm241.2.1 81 = .ok (.ireturn, 1) := by decide +kernel
theorem zd241_82 : decode zxm241.2.1 82 = .ok (.aload_n 0, 1) := by decide +kernel
theorem zd241_83 : decode zxm241.2.1 83 = .ok (.bipush 118, 2) := by decide +kernel
theorem zd241_85 : decode zxm241.2.1 85 = .ok (.invokevirtual 284, 3) := by decide +kernel
theorem zd241_88 : decode zxm241.2.1 88 = .ok (.ifCond .ne 5, 3) := by decide +kernel
theorem zd241_91 : decode zxm241.2.1 91 = .ok (.iconst 1, 1) := by decide +kernel
theorem zd241_92 : decode zxm241.2.1 92 = .ok (.ireturn, 1) := by decide +kernel
theorem zd241_93 : decode zxm241.2.1 93 = .ok (.aload_n 0, 1) := by decide +kernel
theorem zd241_94 : decode zxm241.2.1 94 = .ok (.iload_n 2, 1) := by decide +kernel
theorem zd241_95 : decode zxm241.2.1 95 = .ok (.invokevirtual 287, 3) := by decide +kernel
theorem zd241_98 : decode zxm241.2.1 98 = .ok (.aload_n 0, 1) := by decide +kernel
theorem zd241_99 : decode zxm241.2.1 99 = .ok (.getfield 59, 3) := by decide +kernel
theorem zd241_102 : decode zxm241.2.1 102 = .ok (.bipush 10, 2) := by decide +kernel
theorem zd241_104 : decode zxm241.2.1 104 = .ok (.iload_n 3, 1) := by decide +kernel
theorem zd241_105 : decode zxm241.2.1 105 = .ok (.iastore, 1) := by decide +kernel
theorem zd241_106 : decode zxm241.2.1 106 = .ok (.aload_n 0, 1) := by decide +kernel
theorem zd241_107 : decode zxm241.2.1 107 = .ok (.getfield 59, 3) := by decide +kernel
theorem zd241_110 : decode zxm241.2.1 110 = .ok (.bipush 11, 2) := by decide +kernel
theorem zd241_112 : decode zxm241.2.1 112 = .ok (.iload 4, 2) := by decide +kernel
theorem zd241_114 : decode zxm241.2.1 114 = .ok (.iastore, 1) := by decide +kernel
theorem zd241_115 : decode zxm241.2.1 115 = .ok (.aload_n 0, 1) := by decide +kernel
theorem zd241_116 : decode zxm241.2.1 116 = .ok (.getfield 59, 3) := by decide +kernel
theorem zd241_119 : decode zxm241.2.1 119 = .ok (.bipush 12, 2) := by decide +kernel
theorem zd241_121 : decode zxm241.2.1 121 = .ok (.iload_n 3, 1) := by decide +kernel
theorem zd241_122 : decode zxm241.2.1 122 = .ok (.iload 4, 2) := by decide +kernel
theorem zd241_124 : decode zxm241.2.1 124 = .ok (.iload 5, 2) := by decide +kernel
theorem zd241_126 : decode zxm241.2.1 126 = .ok (.aload_n 0, 1) := by decide +kernel
theorem zd241_127 : decode zxm241.2.1 127 = .ok (.getfield 7, 3) := by decide +kernel
theorem zd241_130 : decode zxm241.2.1 130 = .ok (.bipush 24, 2) := by decide +kernel
theorem zd241_132 : decode zxm241.2.1 132 = .ok (.iload_n 2, 1) := by decide +kernel
theorem zd241_133 : decode zxm241.2.1 133 = .ok (.iadd, 1) := by decide +kernel
theorem zd241_134 : decode zxm241.2.1 134 = .ok (.iaload, 1) := by decide +kernel
theorem zd241_135 : decode zxm241.2.1 135 = .ok (.invokestatic 290, 3) := by decide +kernel
theorem zd241_138 : decode zxm241.2.1 138 = .ok (.iastore, 1) := by decide +kernel
theorem zd241_139 : decode zxm241.2.1 139 = .ok (.aload_n 0, 1) := by decide +kernel
theorem zd241_140 : decode zxm241.2.1 140 = .ok (.bipush 118, 2) := by decide +kernel
theorem zd241_142 : decode zxm241.2.1 142 = .ok (.invokevirtual 294, 3) := by decide +kernel
theorem zd241_145 : decode zxm241.2.1 145 = .ok (.ireturn, 1) := by decide +kernel
theorem zt_M_isSeen {x1 : Int} {x2 : Int} {f0 : Int} {g0 : (Int → Int)} {g1 : (Int → Int)} {g2 : (Int → Int)} {g3 : (Int → Int)} {g4 : (Int → Int)} {g5 : (Int → Int)} {g6 : (Int → Int)} {o : Int × (Int → Int) × (Int → Int)} (h : zf_M_isSeen x1 x2 f0 g0 g1 g2 g3 g4 g5 g6 = some o) : zv_Fn z_TB z_cl z_KX zy_M_isSeen zxm241 (3, 180) [.inr 0, .inl x1, .inl x2] [.inl f0] [g0, g1, g2, g3, g4, g5, g6] (some o.1) [.inl f0] [g0, g1, o.2.1, g3, g4, g5, o.2.2] := zv_meth (K := (z_KF13, z_KC13, z_KL13, z_KT13, [], [], [], none)) (FT := z_FT) (MT := z_MT) (n := 3) zxp241 (z_ks13 _ (fun _ h => List.mem_cons_of_mem _ h) _ _ _ _ (fun j r h _ => by cases h)) (fun _ _ => zs_KX_p) zyw_M_isSeen (fun va F G h => by obtain ⟨rfl, _⟩ := h; rfl) (fun va F G h => by obtain ⟨rfl, _⟩ := h; rfl) rfl fun good va F G hB hret hvret hP => by
  obtain ⟨rfl, rfl, rfl⟩ := hP
  unfold zf_M_isSeen at h
  refine zv_ild hB zd241_0 rfl rfl ?_
  refine zv_con hB zd241_1 rfl ?_
  refine zv_remw hB zd241_3 (by decide) ?_
  refine zv_ist hB zd241_4 rfl rfl rfl ?_
  refine zv_ild hB zd241_5 rfl rfl ?_
  refine zv_con hB zd241_6 rfl ?_
  refine zv_divw hB zd241_8 (by decide) ?_
  refine zv_ist hB zd241_9 rfl rfl rfl ?_
  refine zv_ald hB zd241_11 rfl rfl rfl ?_
  refine zv_ild hB zd241_12 rfl rfl ?_
  obtain ⟨r1, hr1, h⟩ := zi_bind h
  refine zv_cv hB (zv_emq (va2 := [.inr 0, .inl x2]) (F := [.inl f0]) (F' := [.inl f0]) (G := [g0, g1, g2, g3, g4, g5, g6]) (G' := [g0, g1, g2, g3, g4, g5, g6]) (ρ := [0, 1]) (φ := []) (ψ := [0]) [none] [some 0, none, none, none, none, none, none] zyw_M_standsAt zyw_M_isSeen zye_M_isSeen (by decide +kernel) (zt_M_standsAt hr1) trivial ⟨rfl, trivial⟩ rfl rfl rfl rfl rfl rfl rfl) zd241_13 zxt238 rfl (by decide) (by decide) rfl ?_
  refine zv_ist hB zd241_16 rfl rfl rfl ?_
  refine zv_ild hB zd241_18 rfl rfl ?_
  refine zv_ild hB zd241_19 rfl rfl ?_
  obtain ⟨r2, hr2, h⟩ := zi_bind h
  refine zv_cs hB (zv_emq (va2 := [.inl (zi_rem x1 24), .inl r1]) (F := [.inl f0]) (F' := [.inl f0]) (G := [g0, g1, g2, g3, g4, g5, g6]) (G' := [g0, g1, g2, g3, g4, g5, g6]) (ρ := []) (φ := []) (ψ := []) [none] [none, none, none, none, none, none, none] zyw_M_toRight zyw_M_isSeen zye_M_isSeen (by decide +kernel) (zt_M_toRight hr2) trivial trivial rfl rfl rfl rfl rfl rfl rfl) zd241_21 zxt242 rfl (by decide) (by decide) rfl ?_
  obtain ⟨r3, hr3, h⟩ := zi_bind h
  refine zv_cs hB (zv_emq (va2 := [.inl r2]) (F := [.inl f0]) (F' := [.inl f0]) (G := [g0, g1, g2, g3, g4, g5, g6]) (G' := [g0, g1, g2, g3, g4, g5, g6]) (ρ := []) (φ := []) (ψ := []) [none] [none, none, none, none, none, none, none] zyw_M_size zyw_M_isSeen zye_M_isSeen (by decide +kernel) (zt_M_size hr3) trivial trivial rfl rfl rfl rfl rfl rfl rfl) zd241_24 zxt243 rfl (by decide) (by decide) rfl ?_
  refine zv_ald hB zd241_27 rfl rfl rfl ?_
  refine zv_getr hB zd241_28 rfl ?_
  refine zv_con hB zd241_31 rfl ?_
  refine zv_iald hB zd241_34 rfl rfl (by decide) (by decide) (fun _ _ => ?_)
  refine zv_cgt hB zd241_35 rfl (fun hc4 => ?_) (fun hc4 => ?_)
  · rw [if_pos hc4] at h
    refine zv_con hB zd241_80 rfl ?_
    have hw := Option.some.inj h
    subst hw
    exact hret _ _ _ _ _ zd241_81 (by constructor <;> decide) ⟨rfl, rfl, rfl⟩
  · rw [if_neg (Int.not_lt.mpr hc4)] at h
    refine zv_ald hB zd241_38 rfl rfl rfl ?_
    refine zv_getr hB zd241_39 rfl ?_
    refine zv_con hB zd241_42 rfl ?_
    refine zv_ild hB zd241_44 rfl rfl ?_
    refine zv_addw hB zd241_45 ?_
    obtain ⟨c5, h⟩ := zi_if h
    refine zv_iald hB zd241_46 rfl rfl (zi_ix_ok c5).1 (zi_ix_ok c5).2 (fun _ _ => ?_)
    refine zv_ild hB zd241_47 rfl rfl ?_
    refine zv_subw hB zd241_49 ?_
    obtain ⟨r6, hr6, h⟩ := zi_bind h
    refine zv_cs hB (zv_emq (va2 := [.inl (zi_w ((g0 (zi_w (24 + x2))) - (zi_div x1 24)))]) (F := [.inl f0]) (F' := [.inl f0]) (G := [g0, g1, g2, g3, g4, g5, g6]) (G' := [g0, g1, g2, g3, g4, g5, g6]) (ρ := []) (φ := []) (ψ := []) [none] [none, none, none, none, none, none, none] zyw_M_size zyw_M_isSeen zye_M_isSeen (by decide +kernel) (zt_M_size hr6) trivial trivial rfl rfl rfl rfl rfl rfl rfl) zd241_50 zxt243 rfl (by decide) (by decide) rfl ?_
    refine zv_ald hB zd241_53 rfl rfl rfl ?_
    refine zv_getr hB zd241_54 rfl ?_
    refine zv_con hB zd241_57 rfl ?_
    refine zv_iald hB zd241_60 rfl rfl (by decide) (by decide) (fun _ _ => ?_)
    refine zv_cgt hB zd241_61 rfl (fun hc7 => ?_) (fun hc7 => ?_)
    · rw [if_pos hc7] at h
      refine zv_con hB zd241_80 rfl ?_
      have hw := Option.some.inj h
      subst hw
      exact hret _ _ _ _ _ zd241_81 (by constructor <;> decide) ⟨rfl, rfl, rfl⟩
    · rw [if_neg (Int.not_lt.mpr hc7)] at h
      refine zv_ald hB zd241_64 rfl rfl rfl ?_
      refine zv_getr hB zd241_65 rfl ?_
      refine zv_con hB zd241_68 rfl ?_
      refine zv_iald hB zd241_71 rfl rfl (by decide) (by decide) (fun _ _ => ?_)
      refine zv_ild hB zd241_72 rfl rfl ?_
      obtain ⟨r8, hr8, h⟩ := zi_bind h
      refine zv_cs hB (zv_emq (va2 := [.inl (g0 130), .inl r1]) (F := [.inl f0]) (F' := [.inl f0]) (G := [g0, g1, g2, g3, g4, g5, g6]) (G' := [g0, g1, g2, g3, g4, g5, g6]) (ρ := []) (φ := []) (ψ := []) [none] [none, none, none, none, none, none, none] zyw_M_has zyw_M_isSeen zye_M_isSeen (by decide +kernel) (zt_M_has hr8) trivial trivial rfl rfl rfl rfl rfl rfl rfl) zd241_74 zxt204 rfl (by decide) (by decide) rfl ?_
      refine zv_zeq hB zd241_77 rfl (fun hc9 => ?_) (fun hc9 => ?_)
      · rw [if_pos hc9] at h
        refine zv_ald hB zd241_82 rfl rfl rfl ?_
        refine zv_con hB zd241_83 rfl ?_
        obtain ⟨r10, hr10, h⟩ := zi_bind h
        refine zv_cv hB (zv_emq (va2 := [.inr 0, .inl 118]) (F := [.inl f0]) (F' := [.inl f0]) (G := [g0, g1, g2, g3, g4, g5, g6]) (G' := [g0, g1, g2, g3, g4, g5, g6]) (ρ := [0, 2]) (φ := [0]) (ψ := [1]) [some 0] [none, some 0, none, none, none, none, none] zyw_M_hasClause zyw_M_isSeen zye_M_isSeen (by decide +kernel) (zt_M_hasClause hr10) ⟨⟨_, rfl, fun _ => rfl⟩, trivial⟩ ⟨rfl, trivial⟩ rfl rfl rfl rfl rfl rfl rfl) zd241_85 zxt244 rfl (by decide) (by decide) rfl ?_
        refine zv_zne hB zd241_88 rfl (fun hc11 => ?_) (fun hc11 => ?_)
        · rw [if_neg hc11] at h
          refine zv_ald hB zd241_93 rfl rfl rfl ?_
          refine zv_ild hB zd241_94 rfl rfl ?_
          obtain ⟨r12, hr12, h⟩ := zi_bind h
          refine zv_cv hB (zv_emq (va2 := [.inr 0, .inl x2]) (F := [.inl f0]) (F' := [.inl f0]) (G := [g0, g1, g2, g3, g4, g5, g6]) (G' := [g0, g1, r12, g3, g4, g5, g6]) (ρ := [0, 3, 1]) (φ := []) (ψ := [2, 0]) [none] [some 1, none, some 0, none, none, none, none] zyw_M_feelsStar zyw_M_isSeen zye_M_isSeen (by decide +kernel) (zt_M_feelsStar hr12) trivial ⟨rfl, rfl, trivial⟩ rfl rfl rfl rfl rfl rfl rfl) zd241_95 zxt245 rfl (by decide) (by decide) rfl ?_
          refine zv_ald hB zd241_98 rfl rfl rfl ?_
          refine zv_getr hB zd241_99 rfl ?_
          refine zv_con hB zd241_102 rfl ?_
          refine zv_ild hB zd241_104 rfl rfl ?_
          refine zv_iast hB zd241_105 rfl rfl (by decide) (by decide) ?_
          refine zv_ald hB zd241_106 rfl rfl rfl ?_
          refine zv_getr hB zd241_107 rfl ?_
          refine zv_con hB zd241_110 rfl ?_
          refine zv_ild hB zd241_112 rfl rfl ?_
          refine zv_iast hB zd241_114 rfl rfl (by decide) (by decide) ?_
          refine zv_ald hB zd241_115 rfl rfl rfl ?_
          refine zv_getr hB zd241_116 rfl ?_
          refine zv_con hB zd241_119 rfl ?_
          refine zv_ild hB zd241_121 rfl rfl ?_
          refine zv_ild hB zd241_122 rfl rfl ?_
          refine zv_ild hB zd241_124 rfl rfl ?_
          refine zv_ald hB zd241_126 rfl rfl rfl ?_
          refine zv_getr hB zd241_127 rfl ?_
          refine zv_con hB zd241_130 rfl ?_
          refine zv_ild hB zd241_132 rfl rfl ?_
          refine zv_addw hB zd241_133 ?_
          refine zv_iald hB zd241_134 rfl rfl (zi_ix_ok c5).1 (zi_ix_ok c5).2 (fun _ _ => ?_)
          obtain ⟨r13, hr13, h⟩ := zi_bind h
          refine zv_cs hB (zv_emq (va2 := [.inl (zi_rem x1 24), .inl (zi_div x1 24), .inl r1, .inl (g0 (zi_w (24 + x2)))]) (F := [.inl f0]) (F' := [.inl f0]) (G := [g0, g1, (zv_up (zv_up r12 10 (zi_rem x1 24)) 11 (zi_div x1 24)), g3, g4, g5, g6]) (G' := [g0, g1, (zv_up (zv_up r12 10 (zi_rem x1 24)) 11 (zi_div x1 24)), g3, g4, g5, g6]) (ρ := []) (φ := []) (ψ := []) [none] [none, none, none, none, none, none, none] zyw_M_way zyw_M_isSeen zye_M_isSeen (by decide +kernel) (zt_M_way hr13) trivial trivial rfl rfl rfl rfl rfl rfl rfl) zd241_135 zxt247 rfl (by decide) (by decide) rfl ?_
          refine zv_iast hB zd241_138 rfl rfl (by decide) (by decide) ?_
          refine zv_ald hB zd241_139 rfl rfl rfl ?_
          refine zv_con hB zd241_140 rfl ?_
          obtain ⟨r14, hr14, h⟩ := zi_bind h
          refine zv_cv hB (zv_emq (va2 := [.inr 0, .inl 118]) (F := [.inl f0]) (F' := [.inl f0]) (G := [g0, g1, (zv_up (zv_up (zv_up r12 10 (zi_rem x1 24)) 11 (zi_div x1 24)) 12 r13), g3, g4, g5, g6]) (G' := [g0, g1, (zv_up (zv_up (zv_up r12 10 (zi_rem x1 24)) 11 (zi_div x1 24)) 12 r13), g3, g4, g5, r14.2]) (ρ := [0, 2, 4, 5, 6, 7, 3]) (φ := [0]) (ψ := [1, 3, 4, 5, 6, 2]) [some 0] [none, some 0, some 5, some 1, some 2, some 3, some 4] zyw_M_anyOf zyw_M_isSeen zye_M_isSeen (by decide +kernel) (zt_M_anyOf hr14) ⟨⟨_, rfl, fun _ => rfl⟩, trivial⟩ ⟨rfl, rfl, rfl, rfl, rfl, rfl, trivial⟩ rfl rfl rfl rfl rfl rfl rfl) zd241_142 zxt248 rfl (by decide) (by decide) rfl ?_
          obtain ⟨c15, h⟩ := zi_if h
          have hw := Option.some.inj h
          subst hw
          exact hret _ _ _ _ _ zd241_145 (zi_bo_ok c15) ⟨rfl, rfl, rfl⟩
        · rw [if_pos hc11] at h
          refine zv_con hB zd241_91 rfl ?_
          have hw := Option.some.inj h
          subst hw
          exact hret _ _ _ _ _ zd241_92 (by constructor <;> decide) ⟨rfl, rfl, rfl⟩
      · rw [if_neg hc9] at h
        refine zv_con hB zd241_80 rfl ?_
        have hw := Option.some.inj h
        subst hw
        exact hret _ _ _ _ _ zd241_81 (by constructor <;> decide) ⟨rfl, rfl, rfl⟩
/-! M_seenFrom (I)I -/
-- names: 0 StarTalesModel('arg', 0), 1 (0, 422)(0, 12, 0), 2 (0, 14)(0, 12, 21), 3 (0, 13)(0, 12, 26), 4 (0, 14)(0, 12, 23), 5 (0, 14)(0, 12, 24), 6 (0, 220)(0, 12, 20), 7 (0, 220)(0, 12, 25)
-- fields: f0 = 0.clauses_; arrays: g0 = 1, g1 = 2, g2 = 3, g3 = 4, g4 = 5, g5 = 6, g6 = 7; out: [('ret', None), ('g', 2), ('g', 6)]
abbrev zy_M_seenFrom : zNL := (8, [(0, 12)], [(0, 12, 13, 0)], [(0, 12, 0, 1), (0, 12, 21, 2), (0, 12, 26, 3), (0, 12, 23, 4), (0, 12, 24, 5), (0, 12, 20, 6), (0, 12, 25, 7)], [(1, 0, 422, 0), (2, 0, 14, 1), (3, 0, 13, 2), (4, 0, 14, 3), (5, 0, 14, 4), (6, 0, 220, 5), (7, 0, 220, 6)])
theorem zyw_M_seenFrom : zv_wf zy_M_seenFrom = true := by decide +kernel
theorem zye_M_seenFrom : zv_ek2 zy_M_seenFrom = true := by decide +kernel
def zf_M_seenFrom_l0_b (x1 : Int) (f0 : Int) (g0 : (Int → Int)) (g1 : (Int → Int)) (g3 : (Int → Int)) (g4 : (Int → Int)) (g5 : (Int → Int)) (rec : Int → Int → (Int → Int) → (Int → Int) → Option (Int × (Int → Int) × (Int → Int))) (x2 : Int) (x3 : Int) (g2 : (Int → Int)) (g6 : (Int → Int)) : Option (Int × (Int → Int) × (Int → Int)) := if x3 < 24 then ((zf_M_isTold x3 g0).bind fun r2 => (if r2 = 0 then (rec x2 (zi_w (x3 + 1)) g2 g6) else ((zf_M_isSeen x1 x3 f0 g0 g1 g2 g3 g4 g5 g6).bind fun r4 => (if r4.1 = 0 then (rec x2 (zi_w (x3 + 1)) r4.2.1 r4.2.2) else (rec (zi_or x2 (zi_shl 1 x3)) (zi_w (x3 + 1)) r4.2.1 r4.2.2))))) else (some (x2, g2, g6))
def zf_M_seenFrom_l0 (x1 : Int) (f0 : Int) (g0 : (Int → Int)) (g1 : (Int → Int)) (g3 : (Int → Int)) (g4 : (Int → Int)) (g5 : (Int → Int)) : Nat → Int → Int → (Int → Int) → (Int → Int) → Option (Int × (Int → Int) × (Int → Int))
  | 0, _, _, _, _ => none
  | n + 1, x2, x3, g2, g6 => zf_M_seenFrom_l0_b x1 f0 g0 g1 g3 g4 g5 (zf_M_seenFrom_l0 x1 f0 g0 g1 g3 g4 g5 n) x2 x3 g2 g6
def zf_M_seenFrom (x1 : Int) (f0 : Int) (g0 : (Int → Int)) (g1 : (Int → Int)) (g2 : (Int → Int)) (g3 : (Int → Int)) (g4 : (Int → Int)) (g5 : (Int → Int)) (g6 : (Int → Int)) : Option (Int × (Int → Int) × (Int → Int)) := (zf_M_seenFrom_l0 x1 f0 g0 g1 g3 g4 g5 zi_fu 0 0 g2 g6).bind fun q6 => (some (q6.1, q6.2.1, q6.2.2))
theorem zd240_0 : decode zxm240.2.1 0 = .ok (.iconst 0, 1) := by decide +kernel
theorem zd240_1 : decode zxm240.2.1 1 = .ok (.istore_n 2, 1) := by decide +kernel
theorem zd240_2 : decode zxm240.2.1 2 = .ok (.iconst 0, 1) := by decide +kernel
theorem zd240_3 : decode zxm240.2.1 3 = .ok (.istore_n 3, 1) := by decide +kernel
theorem zd240_4 : decode zxm240.2.1 4 = .ok (.iload_n 3, 1) := by decide +kernel
theorem zd240_5 : decode zxm240.2.1 5 = .ok (.bipush 24, 2) := by decide +kernel
theorem zd240_7 : decode zxm240.2.1 7 = .ok (.if_icmp .ge 32, 3) := by decide +kernel
theorem zd240_10 : decode zxm240.2.1 10 = .ok (.aload_n 0, 1) := by decide +kernel
theorem zd240_11 : decode zxm240.2.1 11 = .ok (.iload_n 3, 1) := by decide +kernel
theorem zd240_12 : decode zxm240.2.1 12 = .ok (.invokevirtual 157, 3) := by decide +kernel
theorem zd240_15 : decode zxm240.2.1 15 = .ok (.ifCond .eq 18, 3) := by decide +kernel
theorem zd240_18 : decode zxm240.2.1 18 = .ok (.aload_n 0, 1) := by decide +kernel
theorem zd240_19 : decode zxm240.2.1 19 = .ok (.iload_n 1, 1) := by decide +kernel
theorem zd240_20 : decode zxm240.2.1 20 = .ok (.iload_n 3, 1) := by decide +kernel
theorem zd240_21 : decode zxm240.2.1 21 = .ok (.invokevirtual 297, 3) := by decide +kernel
theorem zd240_24 : decode zxm240.2.1 24 = .ok (.ifCond .eq 9, 3) := by decide +kernel
theorem zd240_27 : decode zxm240.2.1 27 = .ok (.iload_n 2, 1) := by decide +kernel
theorem zd240_28 : decode zxm240.2.1 28 = .ok (.iconst 1, 1) := by decide +kernel
theorem zd240_29 : decode zxm240.2.1 29 = .ok (.iload_n 3, 1) := by decide +kernel
theorem zd240_30 : decode zxm240.2.1 30 = .ok (.ishl, 1) := by decide +kernel
theorem zd240_31 : decode zxm240.2.1 31 = .ok (.ior, 1) := by decide +kernel
theorem zd240_32 : decode zxm240.2.1 32 = .ok (.istore_n 2, 1) := by decide +kernel
theorem zd240_33 : decode zxm240.2.1 33 = .ok (.iinc 3 1, 3) := by decide +kernel
theorem zd240_36 : decode zxm240.2.1 36 = .ok (.goto (-32), 3) := by decide +kernel
theorem zd240_39 : decode zxm240.2.1 39 = .ok (.iload_n 2, 1) := by decide +kernel
theorem zd240_40 : decode zxm240.2.1 40 = .ok (.ireturn, 1) := by decide +kernel
theorem zt_M_seenFrom {x1 : Int} {f0 : Int} {g0 : (Int → Int)} {g1 : (Int → Int)} {g2 : (Int → Int)} {g3 : (Int → Int)} {g4 : (Int → Int)} {g5 : (Int → Int)} {g6 : (Int → Int)} {o : Int × (Int → Int) × (Int → Int)} (h : zf_M_seenFrom x1 f0 g0 g1 g2 g3 g4 g5 g6 = some o) : zv_Fn z_TB z_cl z_KX zy_M_seenFrom zxm240 (4, 240) [.inr 0, .inl x1] [.inl f0] [g0, g1, g2, g3, g4, g5, g6] (some o.1) [.inl f0] [g0, g1, o.2.1, g3, g4, g5, o.2.2] := zv_meth (K := (z_KF13, z_KC13, z_KL13, z_KT13, [], [], [], none)) (FT := z_FT) (MT := z_MT) (n := 2) zxp240 (z_ks13 _ (fun _ h => List.mem_cons_of_mem _ h) _ _ _ _ (fun j r h _ => by cases h)) (fun _ _ => zs_KX_p) zyw_M_seenFrom (fun va F G h => by obtain ⟨rfl, _⟩ := h; rfl) (fun va F G h => by obtain ⟨rfl, _⟩ := h; rfl) rfl fun good va F G hB hret hvret hP => by
  obtain ⟨rfl, rfl, rfl⟩ := hP
  have l0 : ∀ (n : Nat) (x1 : Int) (x2 : Int) (x3 : Int) (g2 : (Int → Int)) (g6 : (Int → Int)) (q : Int × (Int → Int) × (Int → Int)), zf_M_seenFrom_l0 x1 f0 g0 g1 g3 g4 g5 n x2 x3 g2 g6 = some q → (good 39 [.inr 1000, .inr 1000, .inl q.1, .inr 1000] [] [.inl f0] [g0, g1, q.2.1, g3, g4, g5, q.2.2]) → good 4 [.inr 0, .inl x1, .inl x2, .inl x3] [] [.inl f0] [g0, g1, g2, g3, g4, g5, g6] := by
    intro n
    induction n with
    | zero => intro x1 x2 x3 g2 g6 q h; exact absurd (show none = some q from h) (fun h => by cases h)
    | succ n ih =>
      intro x1 x2 x3 g2 g6 q h hK
      replace h : zf_M_seenFrom_l0_b x1 f0 g0 g1 g3 g4 g5 (zf_M_seenFrom_l0 x1 f0 g0 g1 g3 g4 g5 n) x2 x3 g2 g6 = some q := h
      unfold zf_M_seenFrom_l0_b at h
      refine zv_ild hB zd240_4 rfl rfl ?_
      refine zv_con hB zd240_5 rfl ?_
      refine zv_cge hB zd240_7 rfl (fun hc1 => ?_) (fun hc1 => ?_)
      · rw [if_neg (Int.not_lt.mpr hc1)] at h
        have hq := Option.some.inj h
        subst hq
        refine zv_wk hB (L' := [.inr 1000, .inr 1000, .inl x2, .inr 1000]) (F' := [.inl f0]) ⟨fun (h : zv_is (.inr 1000)) => (Nat.lt_irrefl 1000 h).elim, fun (h : zv_is (.inr 1000)) => (Nat.lt_irrefl 1000 h).elim, fun _ => rfl, fun (h : zv_is (.inr 1000)) => (Nat.lt_irrefl 1000 h).elim, trivial⟩ ⟨fun _ => rfl, trivial⟩ ?_
        exact hK
      · rw [if_pos hc1] at h
        refine zv_ald hB zd240_10 rfl rfl rfl ?_
        refine zv_ild hB zd240_11 rfl rfl ?_
        obtain ⟨r2, hr2, h⟩ := zi_bind h
        refine zv_cv hB (zv_emq (va2 := [.inr 0, .inl x3]) (F := [.inl f0]) (F' := [.inl f0]) (G := [g0, g1, g2, g3, g4, g5, g6]) (G' := [g0, g1, g2, g3, g4, g5, g6]) (ρ := [0, 1]) (φ := []) (ψ := [0]) [none] [some 0, none, none, none, none, none, none] zyw_M_isTold zyw_M_seenFrom zye_M_seenFrom (by decide +kernel) (zt_M_isTold hr2) trivial ⟨rfl, trivial⟩ rfl rfl rfl rfl rfl rfl rfl) zd240_12 zxt203 rfl (by decide) (by decide) rfl ?_
        refine zv_zeq hB zd240_15 rfl (fun hc3 => ?_) (fun hc3 => ?_)
        · rw [if_pos hc3] at h
          refine zv_iincw hB zd240_33 rfl rfl ?_
          refine zv_goto hB zd240_36 rfl ?_
          exact ih _ _ _ _ _ q h hK
        · rw [if_neg hc3] at h
          refine zv_ald hB zd240_18 rfl rfl rfl ?_
          refine zv_ild hB zd240_19 rfl rfl ?_
          refine zv_ild hB zd240_20 rfl rfl ?_
          obtain ⟨r4, hr4, h⟩ := zi_bind h
          refine zv_cv hB (zv_emq (va2 := [.inr 0, .inl x1, .inl x3]) (F := [.inl f0]) (F' := [.inl f0]) (G := [g0, g1, g2, g3, g4, g5, g6]) (G' := [g0, g1, r4.2.1, g3, g4, g5, r4.2.2]) (ρ := [0, 1, 2, 3, 4, 5, 6, 7]) (φ := [0]) (ψ := [0, 1, 2, 3, 4, 5, 6]) [some 0] [some 0, some 1, some 2, some 3, some 4, some 5, some 6] zyw_M_isSeen zyw_M_seenFrom zye_M_seenFrom (by decide +kernel) (zt_M_isSeen hr4) ⟨⟨_, rfl, fun _ => rfl⟩, trivial⟩ ⟨rfl, rfl, rfl, rfl, rfl, rfl, rfl, trivial⟩ rfl rfl rfl rfl rfl rfl rfl) zd240_21 zxt241 rfl (by decide) (by decide) rfl ?_
          refine zv_zeq hB zd240_24 rfl (fun hc5 => ?_) (fun hc5 => ?_)
          · rw [if_pos hc5] at h
            refine zv_iincw hB zd240_33 rfl rfl ?_
            refine zv_goto hB zd240_36 rfl ?_
            exact ih _ _ _ _ _ q h hK
          · rw [if_neg hc5] at h
            refine zv_ild hB zd240_27 rfl rfl ?_
            refine zv_con hB zd240_28 rfl ?_
            refine zv_ild hB zd240_29 rfl rfl ?_
            refine zv_shlw hB zd240_30 ?_
            refine zv_orw hB zd240_31 ?_
            refine zv_ist hB zd240_32 rfl rfl rfl ?_
            refine zv_iincw hB zd240_33 rfl rfl ?_
            refine zv_goto hB zd240_36 rfl ?_
            exact ih _ _ _ _ _ q h hK
  unfold zf_M_seenFrom at h
  refine zv_con hB zd240_0 rfl ?_
  refine zv_ist hB zd240_1 rfl rfl rfl ?_
  refine zv_con hB zd240_2 rfl ?_
  refine zv_ist hB zd240_3 rfl rfl rfl ?_
  obtain ⟨q6, hq6, h⟩ := zi_bind h
  refine l0 _ _ _ _ _ _ q6 hq6 ?_
  show good 39 [.inr 1000, .inr 1000, .inl q6.1, .inr 1000] [] [.inl f0] [g0, g1, q6.2.1, g3, g4, g5, q6.2.2]
  refine zv_ild hB zd240_39 rfl rfl ?_
  have hw := Option.some.inj h
  subst hw
  exact hret _ _ _ _ _ zd240_40 (by trivial) ⟨rfl, rfl, rfl⟩
/-! M_seen (II)I -/
-- names: 0 StarTalesModel('arg', 0), 1 (0, 422)(0, 12, 0), 2 (0, 14)(0, 12, 21), 3 (0, 13)(0, 12, 26), 4 (0, 14)(0, 12, 23), 5 (0, 14)(0, 12, 24), 6 (0, 220)(0, 12, 20), 7 (0, 220)(0, 12, 25)
-- fields: f0 = 0.clauses_; arrays: g0 = 1, g1 = 2, g2 = 3, g3 = 4, g4 = 5, g5 = 6, g6 = 7; out: [('ret', None), ('g', 2), ('g', 6)]
abbrev zy_M_seen : zNL := (8, [(0, 12)], [(0, 12, 13, 0)], [(0, 12, 0, 1), (0, 12, 21, 2), (0, 12, 26, 3), (0, 12, 23, 4), (0, 12, 24, 5), (0, 12, 20, 6), (0, 12, 25, 7)], [(1, 0, 422, 0), (2, 0, 14, 1), (3, 0, 13, 2), (4, 0, 14, 3), (5, 0, 14, 4), (6, 0, 220, 5), (7, 0, 220, 6)])
theorem zyw_M_seen : zv_wf zy_M_seen = true := by decide +kernel
theorem zye_M_seen : zv_ek2 zy_M_seen = true := by decide +kernel
def zf_M_seen (x1 : Int) (x2 : Int) (f0 : Int) (g0 : (Int → Int)) (g1 : (Int → Int)) (g2 : (Int → Int)) (g3 : (Int → Int)) (g4 : (Int → Int)) (g5 : (Int → Int)) (g6 : (Int → Int)) : Option (Int × (Int → Int) × (Int → Int)) := (zf_M_isPlace x1 x2).bind fun r1 => (if r1 = 0 then (some ((-1), g2, g6)) else ((zf_M_seenFrom (zi_w ((zi_w (24 * x2)) + x1)) f0 g0 g1 g2 g3 g4 g5 g6).bind fun r3 => (some (r3.1, r3.2.1, r3.2.2))))
theorem zd239_0 : decode zxm239.2.1 0 = .ok (.iload_n 1, 1) := by decide +kernel
theorem zd239_1 : decode zxm239.2.1 1 = .ok (.iload_n 2, 1) := by decide +kernel
theorem zd239_2 : decode zxm239.2.1 2 = .ok (.invokestatic 154, 3) := by decide +kernel
theorem zd239_5 : decode zxm239.2.1 5 = .ok (.ifCond .eq 16, 3) := by decide +kernel
theorem zd239_8 : decode zxm239.2.1 8 = .ok (.aload_n 0, 1) := by decide +kernel
theorem zd239_9 : decode zxm239.2.1 9 = .ok (.bipush 24, 2) := by decide +kernel
theorem zd239_11 : decode zxm239.2.1 11 = .ok (.iload_n 2, 1) := by decide +kernel
theorem zd239_12 : decode zxm239.2.1 12 = .ok (.imul, 1) := by decide +kernel
theorem zd239_13 : decode zxm239.2.1 13 = .ok (.iload_n 1, 1) := by decide +kernel
theorem zd239_14 : decode zxm239.2.1 14 = .ok (.iadd, 1) := by decide +kernel
theorem zd239_15 : decode zxm239.2.1 15 = .ok (.invokevirtual 300, 3) := by decide +kernel
theorem zd239_18 : decode zxm239.2.1 18 = .ok (.goto 4, 3) := by decide +kernel
theorem zd239_21 : decode zxm239.2.1 21 = .ok (.iconst (-1), 1) := by decide +kernel
theorem zd239_22 : decode zxm239.2.1 22 = .ok (.ireturn, 1) := by decide +kernel
theorem zt_M_seen {x1 : Int} {x2 : Int} {f0 : Int} {g0 : (Int → Int)} {g1 : (Int → Int)} {g2 : (Int → Int)} {g3 : (Int → Int)} {g4 : (Int → Int)} {g5 : (Int → Int)} {g6 : (Int → Int)} {o : Int × (Int → Int) × (Int → Int)} (h : zf_M_seen x1 x2 f0 g0 g1 g2 g3 g4 g5 g6 = some o) : zv_Fn z_TB z_cl z_KX zy_M_seen zxm239 (5, 300) [.inr 0, .inl x1, .inl x2] [.inl f0] [g0, g1, g2, g3, g4, g5, g6] (some o.1) [.inl f0] [g0, g1, o.2.1, g3, g4, g5, o.2.2] := zv_meth (K := (z_KF13, z_KC13, z_KL13, z_KT13, [], [], [], none)) (FT := z_FT) (MT := z_MT) (n := 3) zxp239 (z_ks13 _ (fun _ h => List.mem_cons_of_mem _ h) _ _ _ _ (fun j r h _ => by cases h)) (fun _ _ => zs_KX_p) zyw_M_seen (fun va F G h => by obtain ⟨rfl, _⟩ := h; rfl) (fun va F G h => by obtain ⟨rfl, _⟩ := h; rfl) rfl fun good va F G hB hret hvret hP => by
  obtain ⟨rfl, rfl, rfl⟩ := hP
  unfold zf_M_seen at h
  refine zv_ild hB zd239_0 rfl rfl ?_
  refine zv_ild hB zd239_1 rfl rfl ?_
  obtain ⟨r1, hr1, h⟩ := zi_bind h
  refine zv_cs hB (zv_emq (va2 := [.inl x1, .inl x2]) (F := [.inl f0]) (F' := [.inl f0]) (G := [g0, g1, g2, g3, g4, g5, g6]) (G' := [g0, g1, g2, g3, g4, g5, g6]) (ρ := []) (φ := []) (ψ := []) [none] [none, none, none, none, none, none, none] zyw_M_isPlace zyw_M_seen zye_M_seen (by decide +kernel) (zt_M_isPlace hr1) trivial trivial rfl rfl rfl rfl rfl rfl rfl) zd239_2 zxt201 rfl (by decide) (by decide) rfl ?_
  refine zv_zeq hB zd239_5 rfl (fun hc2 => ?_) (fun hc2 => ?_)
  · rw [if_pos hc2] at h
    refine zv_con hB zd239_21 rfl ?_
    have hw := Option.some.inj h
    subst hw
    exact hret _ _ _ _ _ zd239_22 (by trivial) ⟨rfl, rfl, rfl⟩
  · rw [if_neg hc2] at h
    refine zv_ald hB zd239_8 rfl rfl rfl ?_
    refine zv_con hB zd239_9 rfl ?_
    refine zv_ild hB zd239_11 rfl rfl ?_
    refine zv_mulw hB zd239_12 ?_
    refine zv_ild hB zd239_13 rfl rfl ?_
    refine zv_addw hB zd239_14 ?_
    obtain ⟨r3, hr3, h⟩ := zi_bind h
    refine zv_cv hB (zv_emq (va2 := [.inr 0, .inl (zi_w ((zi_w (24 * x2)) + x1))]) (F := [.inl f0]) (F' := [.inl f0]) (G := [g0, g1, g2, g3, g4, g5, g6]) (G' := [g0, g1, r3.2.1, g3, g4, g5, r3.2.2]) (ρ := [0, 1, 2, 3, 4, 5, 6, 7]) (φ := [0]) (ψ := [0, 1, 2, 3, 4, 5, 6]) [some 0] [some 0, some 1, some 2, some 3, some 4, some 5, some 6] zyw_M_seenFrom zyw_M_seen zye_M_seen (by decide +kernel) (zt_M_seenFrom hr3) ⟨⟨_, rfl, fun _ => rfl⟩, trivial⟩ ⟨rfl, rfl, rfl, rfl, rfl, rfl, rfl, trivial⟩ rfl rfl rfl rfl rfl rfl rfl) zd239_15 zxt240 rfl (by decide) (by decide) rfl ?_
    refine zv_goto hB zd239_18 rfl ?_
    have hw := Option.some.inj h
    subst hw
    exact hret _ _ _ _ _ zd239_22 (by trivial) ⟨rfl, rfl, rfl⟩
/-! M_isDrawn (III)Z -/
-- names: 0 StarTalesModel('arg', 0), 1 (0, 13)(0, 12, 26), 2 (0, 422)(0, 12, 0), 3 (0, 14)(0, 12, 21), 4 (0, 14)(0, 12, 23), 5 (0, 14)(0, 12, 24), 6 (0, 220)(0, 12, 20), 7 (0, 220)(0, 12, 25)
-- fields: f0 = 0.clauses_; arrays: g0 = 1, g1 = 2, g2 = 3, g3 = 4, g4 = 5, g5 = 6, g6 = 7; out: [('ret', None), ('g', 0), ('g', 6)]
abbrev zy_M_isDrawn : zNL := (8, [(0, 12)], [(0, 12, 13, 0)], [(0, 12, 26, 1), (0, 12, 0, 2), (0, 12, 21, 3), (0, 12, 23, 4), (0, 12, 24, 5), (0, 12, 20, 6), (0, 12, 25, 7)], [(1, 0, 13, 0), (2, 0, 422, 1), (3, 0, 14, 2), (4, 0, 14, 3), (5, 0, 14, 4), (6, 0, 220, 5), (7, 0, 220, 6)])
theorem zyw_M_isDrawn : zv_wf zy_M_isDrawn = true := by decide +kernel
theorem zye_M_isDrawn : zv_ek2 zy_M_isDrawn = true := by decide +kernel
def zf_M_isDrawn (x1 : Int) (x2 : Int) (x3 : Int) (f0 : Int) (g0 : (Int → Int)) (g1 : (Int → Int)) (g2 : (Int → Int)) (g3 : (Int → Int)) (g4 : (Int → Int)) (g5 : (Int → Int)) (g6 : (Int → Int)) : Option (Int × (Int → Int) × (Int → Int)) := (zf_M_feelsStar x2 g0 g1).bind fun r1 => (cond (zi_ix (zi_w (48 + x3)) 422) (cond (zi_ix (zi_w (24 + x3)) 422) ((zf_M_standsAt x3 g1).bind fun r4 => ((zf_M_standsAt x2 g1).bind fun r5 => (cond (zi_ix (zi_w (24 + x2)) 422) ((zf_M_standsAt x3 g1).bind fun r7 => ((zf_M_way r5 (g1 (zi_w (24 + x2))) r7 (g1 (zi_w (24 + x3)))).bind fun r8 => ((zf_M_anyOf 106 f0 g2 g3 g4 g5 g6 (zv_up (zv_up (zv_up (zv_up (zv_up (zv_up (zv_up r1 6 x3) 7 (g1 (zi_w (48 + x3)))) 8 (g1 (zi_w (24 + x3)))) 9 r4) 10 (zi_rem x1 24)) 11 (zi_div x1 24)) 12 r8)).bind fun r9 => (cond (zi_bo r9.1) (some (r9.1, (zv_up (zv_up (zv_up (zv_up (zv_up (zv_up (zv_up r1 6 x3) 7 (g1 (zi_w (48 + x3)))) 8 (g1 (zi_w (24 + x3)))) 9 r4) 10 (zi_rem x1 24)) 11 (zi_div x1 24)) 12 r8), r9.2)) none)))) none))) none) none)
theorem zd253_0 : decode zxm253.2.1 0 = .ok (.aload_n 0, 1) := by decide +kernel
theorem zd253_1 : decode zxm253.2.1 1 = .ok (.iload_n 2, 1) := by decide +kernel
theorem zd253_2 : decode zxm253.2.1 2 = .ok (.invokevirtual 287, 3) := by decide +kernel
theorem zd253_5 : decode zxm253.2.1 5 = .ok (.aload_n 0, 1) := by decide +kernel
theorem zd253_6 : decode zxm253.2.1 6 = .ok (.getfield 59, 3) := by decide +kernel
theorem zd253_9 : decode zxm253.2.1 9 = .ok (.bipush 6, 2) := by decide +kernel
theorem zd253_11 : decode zxm253.2.1 11 = .ok (.iload_n 3, 1) := by decide +kernel
theorem zd253_12 : decode zxm253.2.1 12 = .ok (.iastore, 1) := by decide +kernel
theorem zd253_13 : decode zxm253.2.1 13 = .ok (.aload_n 0, 1) := by decide +kernel
theorem zd253_14 : decode zxm253.2.1 14 = .ok (.getfield 59, 3) := by decide +kernel
theorem zd253_17 : decode zxm253.2.1 17 = .ok (.bipush 7, 2) := by decide +kernel
theorem zd253_19 : decode zxm253.2.1 19 = .ok (.aload_n 0, 1) := by decide +kernel
theorem zd253_20 : decode zxm253.2.1 20 = .ok (.getfield 7, 3) := by decide +kernel
theorem zd253_23 : decode zxm253.2.1 23 = .ok (.bipush 48, 2) := by decide +kernel
theorem zd253_25 : decode zxm253.2.1 25 = .ok (.iload_n 3, 1) := by decide +kernel
theorem zd253_26 : decode zxm253.2.1 26 = .ok (.iadd, 1) := by decide +kernel
theorem zd253_27 : decode zxm253.2.1 27 = .ok (.iaload, 1) := by decide +kernel
theorem zd253_28 : decode zxm253.2.1 28 = .ok (.iastore, 1) := by decide +kernel
theorem zd253_29 : decode zxm253.2.1 29 = .ok (.aload_n 0, 1) := by decide +kernel
theorem zd253_30 : decode zxm253.2.1 30 = .ok (.getfield 59, 3) := by decide +kernel
theorem zd253_33 : decode zxm253.2.1 33 = .ok (.bipush 8, 2) := by decide +kernel
theorem zd253_35 : decode zxm253.2.1 35 = .ok (.aload_n 0, 1) := by decide +kernel
theorem zd253_36 : decode zxm253.2.1 36 = .ok (.getfield 7, 3) := by decide +kernel
theorem zd253_39 : decode zxm253.2.1 39 = .ok (.bipush 24, 2) := by decide +kernel
theorem zd253_41 : decode zxm253.2.1 41 = .ok (.iload_n 3, 1) := by decide +kernel
theorem zd253_42 : decode zxm253.2.1 42 = .ok (.iadd, 1) := by decide +kernel
theorem zd253_43 : decode zxm253.2.1 43 = .ok (.iaload, 1) := by decide +kernel
theorem zd253_44 : decode zxm253.2.1 44 = .ok (.iastore, 1) := by decide +kernel
theorem zd253_45 : decode zxm253.2.1 45 = .ok (.aload_n 0, 1) := by decide +kernel
theorem zd253_46 : decode zxm253.2.1 46 = .ok (.getfield 59, 3) := by decide +kernel
theorem zd253_49 : decode zxm253.2.1 49 = .ok (.bipush 9, 2) := by decide +kernel
theorem zd253_51 : decode zxm253.2.1 51 = .ok (.aload_n 0, 1) := by decide +kernel
theorem zd253_52 : decode zxm253.2.1 52 = .ok (.iload_n 3, 1) := by decide +kernel
theorem zd253_53 : decode zxm253.2.1 53 = .ok (.invokevirtual 281, 3) := by decide +kernel
theorem zd253_56 : decode zxm253.2.1 56 = .ok (.iastore, 1) := by decide +kernel
theorem zd253_57 : decode zxm253.2.1 57 = .ok (.aload_n 0, 1) := by decide +kernel
theorem zd253_58 : decode zxm253.2.1 58 = .ok (.getfield 59, 3) := by decide +kernel
theorem zd253_61 : decode zxm253.2.1 61 = .ok (.bipush 10, 2) := by decide +kernel
theorem zd253_63 : decode zxm253.2.1 63 = .ok (.iload_n 1, 1) := by decide +kernel
theorem zd253_64 : decode zxm253.2.1 64 = .ok (.bipush 24, 2) := by decide +kernel
theorem zd253_66 : decode zxm253.2.1 66 = .ok (.irem, 1) := by decide +kernel
theorem zd253_67 : decode zxm253.2.1 67 = .ok (.iastore, 1) := by decide +kernel
theorem zd253_68 : decode zxm253.2.1 68 = .ok (.aload_n 0, 1) := by decide +kernel
theorem zd253_69 : decode zxm253.2.1 69 = .ok (.getfield 59, 3) := by decide +kernel
theorem zd253_72 : decode zxm253.2.1 72 = .ok (.bipush 11, 2) := by decide +kernel
theorem zd253_74 : decode zxm253.2.1 74 = .ok (.iload_n 1, 1) := by decide +kernel
theorem zd253_75 : decode zxm253.2.1 75 = .ok (.bipush 24, 2) := by decide +kernel
theorem zd253_77 : decode zxm253.2.1 77 = .ok (.idiv, 1) := by decide +kernel
theorem zd253_78 : decode zxm253.2.1 78 = .ok (.iastore, 1) := by decide +kernel
theorem zd253_79 : decode zxm253.2.1 79 = .ok (.aload_n 0, 1) := by decide +kernel
theorem zd253_80 : decode zxm253.2.1 80 = .ok (.getfield 59, 3) := by decide +kernel
theorem zd253_83 : decode zxm253.2.1 83 = .ok (.bipush 12, 2) := by decide +kernel
theorem zd253_85 : decode zxm253.2.1 85 = .ok (.aload_n 0, 1) := by decide +kernel
theorem zd253_86 : decode zxm253.2.1 86 = .ok (.iload_n 2, 1) := by decide +kernel
theorem zd253_87 : decode zxm253.2.1 87 = .ok (.invokevirtual 281, 3) := by decide +kernel
theorem zd253_90 : decode zxm253.2.1 90 = .ok (.aload_n 0, 1) := by decide +kernel
theorem zd253_91 : decode zxm253.2.1 91 = .ok (.getfield 7, 3) := by decide +kernel
theorem zd253_94 : decode zxm253.2.1 94 = .ok (.bipush 24, 2) := by decide +kernel
theorem zd253_96 : decode zxm253.2.1 96 = .ok (.iload_n 2, 1) := by decide +kernel
theorem zd253_97 : decode zxm253.2.1 97 = .ok (.iadd, 1) := by decide +kernel
theorem zd253_98 : decode zxm253.2.1 98 = .ok (.iaload, 1) := by decide +kernel
theorem zd253_99 : decode zxm253.2.1 99 = .ok (.aload_n 0, 1) := by decide +kernel
theorem zd253_100 : decode zxm253.2.1 100 = .ok (.iload_n 3, 1) := by decide +kernel
theorem zd253_101 : decode zxm253.2.1 101 = .ok (.invokevirtual 281, 3) := by decide +kernel
theorem zd253_104 : decode zxm253.2.1 104 = .ok (.aload_n 0, 1) := by decide +kernel
theorem zd253_105 : decode zxm253.2.1 105 = .ok (.getfield 7, 3) := by decide +kernel
theorem zd253_108 : decode zxm253.2.1 108 = .ok (.bipush 24, 2) := by decide +kernel
theorem zd253_110 : decode zxm253.2.1 110 = .ok (.iload_n 3, 1) := by decide +kernel
theorem zd253_111 : decode zxm253.2.1 111 = .ok (.iadd, 1) := by decide +kernel
theorem zd253_112 : decode zxm253.2.1 112 = .ok (.iaload, 1) := by decide +kernel
theorem zd253_113 : decode zxm253.2.1 113 = .ok (.invokestatic 290, 3) := by decide +kernel
theorem zd253_116 : decode zxm253.2.1 116 = .ok (.iastore, 1) := by decide +kernel
theorem zd253_117 : decode zxm253.2.1 117 = .ok (.aload_n 0, 1) := by decide +kernel
theorem zd253_118 : decode zxm253.2.1 118 = .ok (.bipush 106, 2) := by decide +kernel
theorem zd253_120 : decode zxm253.2.1 120 = .ok (.invokevirtual 294, 3) := by decide +kernel
theorem zd253_123 : decode zxm253.2.1 123 = .ok (.ireturn, 1) := by decide +kernel
theorem zt_M_isDrawn {x1 : Int} {x2 : Int} {x3 : Int} {f0 : Int} {g0 : (Int → Int)} {g1 : (Int → Int)} {g2 : (Int → Int)} {g3 : (Int → Int)} {g4 : (Int → Int)} {g5 : (Int → Int)} {g6 : (Int → Int)} {o : Int × (Int → Int) × (Int → Int)} (h : zf_M_isDrawn x1 x2 x3 f0 g0 g1 g2 g3 g4 g5 g6 = some o) : zv_Fn z_TB z_cl z_KX zy_M_isDrawn zxm253 (3, 180) [.inr 0, .inl x1, .inl x2, .inl x3] [.inl f0] [g0, g1, g2, g3, g4, g5, g6] (some o.1) [.inl f0] [o.2.1, g1, g2, g3, g4, g5, o.2.2] := zv_meth (K := (z_KF13, z_KC13, z_KL13, z_KT13, [], [], [], none)) (FT := z_FT) (MT := z_MT) (n := 4) zxp253 (z_ks13 _ (fun _ h => List.mem_cons_of_mem _ h) _ _ _ _ (fun j r h _ => by cases h)) (fun _ _ => zs_KX_p) zyw_M_isDrawn (fun va F G h => by obtain ⟨rfl, _⟩ := h; rfl) (fun va F G h => by obtain ⟨rfl, _⟩ := h; rfl) rfl fun good va F G hB hret hvret hP => by
  obtain ⟨rfl, rfl, rfl⟩ := hP
  unfold zf_M_isDrawn at h
  refine zv_ald hB zd253_0 rfl rfl rfl ?_
  refine zv_ild hB zd253_1 rfl rfl ?_
  obtain ⟨r1, hr1, h⟩ := zi_bind h
  refine zv_cv hB (zv_emq (va2 := [.inr 0, .inl x2]) (F := [.inl f0]) (F' := [.inl f0]) (G := [g0, g1, g2, g3, g4, g5, g6]) (G' := [r1, g1, g2, g3, g4, g5, g6]) (ρ := [0, 1, 2]) (φ := []) (ψ := [0, 1]) [none] [some 0, some 1, none, none, none, none, none] zyw_M_feelsStar zyw_M_isDrawn zye_M_isDrawn (by decide +kernel) (zt_M_feelsStar hr1) trivial ⟨rfl, rfl, trivial⟩ rfl rfl rfl rfl rfl rfl rfl) zd253_2 zxt245 rfl (by decide) (by decide) rfl ?_
  refine zv_ald hB zd253_5 rfl rfl rfl ?_
  refine zv_getr hB zd253_6 rfl ?_
  refine zv_con hB zd253_9 rfl ?_
  refine zv_ild hB zd253_11 rfl rfl ?_
  refine zv_iast hB zd253_12 rfl rfl (by decide) (by decide) ?_
  refine zv_ald hB zd253_13 rfl rfl rfl ?_
  refine zv_getr hB zd253_14 rfl ?_
  refine zv_con hB zd253_17 rfl ?_
  refine zv_ald hB zd253_19 rfl rfl rfl ?_
  refine zv_getr hB zd253_20 rfl ?_
  refine zv_con hB zd253_23 rfl ?_
  refine zv_ild hB zd253_25 rfl rfl ?_
  refine zv_addw hB zd253_26 ?_
  obtain ⟨c2, h⟩ := zi_if h
  refine zv_iald hB zd253_27 rfl rfl (zi_ix_ok c2).1 (zi_ix_ok c2).2 (fun _ _ => ?_)
  refine zv_iast hB zd253_28 rfl rfl (by decide) (by decide) ?_
  refine zv_ald hB zd253_29 rfl rfl rfl ?_
  refine zv_getr hB zd253_30 rfl ?_
  refine zv_con hB zd253_33 rfl ?_
  refine zv_ald hB zd253_35 rfl rfl rfl ?_
  refine zv_getr hB zd253_36 rfl ?_
  refine zv_con hB zd253_39 rfl ?_
  refine zv_ild hB zd253_41 rfl rfl ?_
  refine zv_addw hB zd253_42 ?_
  obtain ⟨c3, h⟩ := zi_if h
  refine zv_iald hB zd253_43 rfl rfl (zi_ix_ok c3).1 (zi_ix_ok c3).2 (fun _ _ => ?_)
  refine zv_iast hB zd253_44 rfl rfl (by decide) (by decide) ?_
  refine zv_ald hB zd253_45 rfl rfl rfl ?_
  refine zv_getr hB zd253_46 rfl ?_
  refine zv_con hB zd253_49 rfl ?_
  refine zv_ald hB zd253_51 rfl rfl rfl ?_
  refine zv_ild hB zd253_52 rfl rfl ?_
  obtain ⟨r4, hr4, h⟩ := zi_bind h
  refine zv_cv hB (zv_emq (va2 := [.inr 0, .inl x3]) (F := [.inl f0]) (F' := [.inl f0]) (G := [(zv_up (zv_up (zv_up r1 6 x3) 7 (g1 (zi_w (48 + x3)))) 8 (g1 (zi_w (24 + x3)))), g1, g2, g3, g4, g5, g6]) (G' := [(zv_up (zv_up (zv_up r1 6 x3) 7 (g1 (zi_w (48 + x3)))) 8 (g1 (zi_w (24 + x3)))), g1, g2, g3, g4, g5, g6]) (ρ := [0, 2]) (φ := []) (ψ := [1]) [none] [none, some 0, none, none, none, none, none] zyw_M_standsAt zyw_M_isDrawn zye_M_isDrawn (by decide +kernel) (zt_M_standsAt hr4) trivial ⟨rfl, trivial⟩ rfl rfl rfl rfl rfl rfl rfl) zd253_53 zxt238 rfl (by decide) (by decide) rfl ?_
  refine zv_iast hB zd253_56 rfl rfl (by decide) (by decide) ?_
  refine zv_ald hB zd253_57 rfl rfl rfl ?_
  refine zv_getr hB zd253_58 rfl ?_
  refine zv_con hB zd253_61 rfl ?_
  refine zv_ild hB zd253_63 rfl rfl ?_
  refine zv_con hB zd253_64 rfl ?_
  refine zv_remw hB zd253_66 (by decide) ?_
  refine zv_iast hB zd253_67 rfl rfl (by decide) (by decide) ?_
  refine zv_ald hB zd253_68 rfl rfl rfl ?_
  refine zv_getr hB zd253_69 rfl ?_
  refine zv_con hB zd253_72 rfl ?_
  refine zv_ild hB zd253_74 rfl rfl ?_
  refine zv_con hB zd253_75 rfl ?_
  refine zv_divw hB zd253_77 (by decide) ?_
  refine zv_iast hB zd253_78 rfl rfl (by decide) (by decide) ?_
  refine zv_ald hB zd253_79 rfl rfl rfl ?_
  refine zv_getr hB zd253_80 rfl ?_
  refine zv_con hB zd253_83 rfl ?_
  refine zv_ald hB zd253_85 rfl rfl rfl ?_
  refine zv_ild hB zd253_86 rfl rfl ?_
  obtain ⟨r5, hr5, h⟩ := zi_bind h
  refine zv_cv hB (zv_emq (va2 := [.inr 0, .inl x2]) (F := [.inl f0]) (F' := [.inl f0]) (G := [(zv_up (zv_up (zv_up (zv_up (zv_up (zv_up r1 6 x3) 7 (g1 (zi_w (48 + x3)))) 8 (g1 (zi_w (24 + x3)))) 9 r4) 10 (zi_rem x1 24)) 11 (zi_div x1 24)), g1, g2, g3, g4, g5, g6]) (G' := [(zv_up (zv_up (zv_up (zv_up (zv_up (zv_up r1 6 x3) 7 (g1 (zi_w (48 + x3)))) 8 (g1 (zi_w (24 + x3)))) 9 r4) 10 (zi_rem x1 24)) 11 (zi_div x1 24)), g1, g2, g3, g4, g5, g6]) (ρ := [0, 2]) (φ := []) (ψ := [1]) [none] [none, some 0, none, none, none, none, none] zyw_M_standsAt zyw_M_isDrawn zye_M_isDrawn (by decide +kernel) (zt_M_standsAt hr5) trivial ⟨rfl, trivial⟩ rfl rfl rfl rfl rfl rfl rfl) zd253_87 zxt238 rfl (by decide) (by decide) rfl ?_
  refine zv_ald hB zd253_90 rfl rfl rfl ?_
  refine zv_getr hB zd253_91 rfl ?_
  refine zv_con hB zd253_94 rfl ?_
  refine zv_ild hB zd253_96 rfl rfl ?_
  refine zv_addw hB zd253_97 ?_
  obtain ⟨c6, h⟩ := zi_if h
  refine zv_iald hB zd253_98 rfl rfl (zi_ix_ok c6).1 (zi_ix_ok c6).2 (fun _ _ => ?_)
  refine zv_ald hB zd253_99 rfl rfl rfl ?_
  refine zv_ild hB zd253_100 rfl rfl ?_
  obtain ⟨r7, hr7, h⟩ := zi_bind h
  refine zv_cv hB (zv_emq (va2 := [.inr 0, .inl x3]) (F := [.inl f0]) (F' := [.inl f0]) (G := [(zv_up (zv_up (zv_up (zv_up (zv_up (zv_up r1 6 x3) 7 (g1 (zi_w (48 + x3)))) 8 (g1 (zi_w (24 + x3)))) 9 r4) 10 (zi_rem x1 24)) 11 (zi_div x1 24)), g1, g2, g3, g4, g5, g6]) (G' := [(zv_up (zv_up (zv_up (zv_up (zv_up (zv_up r1 6 x3) 7 (g1 (zi_w (48 + x3)))) 8 (g1 (zi_w (24 + x3)))) 9 r4) 10 (zi_rem x1 24)) 11 (zi_div x1 24)), g1, g2, g3, g4, g5, g6]) (ρ := [0, 2]) (φ := []) (ψ := [1]) [none] [none, some 0, none, none, none, none, none] zyw_M_standsAt zyw_M_isDrawn zye_M_isDrawn (by decide +kernel) (zt_M_standsAt hr7) trivial ⟨rfl, trivial⟩ rfl rfl rfl rfl rfl rfl rfl) zd253_101 zxt238 rfl (by decide) (by decide) rfl ?_
  refine zv_ald hB zd253_104 rfl rfl rfl ?_
  refine zv_getr hB zd253_105 rfl ?_
  refine zv_con hB zd253_108 rfl ?_
  refine zv_ild hB zd253_110 rfl rfl ?_
  refine zv_addw hB zd253_111 ?_
  refine zv_iald hB zd253_112 rfl rfl (zi_ix_ok c3).1 (zi_ix_ok c3).2 (fun _ _ => ?_)
  obtain ⟨r8, hr8, h⟩ := zi_bind h
  refine zv_cs hB (zv_emq (va2 := [.inl r5, .inl (g1 (zi_w (24 + x2))), .inl r7, .inl (g1 (zi_w (24 + x3)))]) (F := [.inl f0]) (F' := [.inl f0]) (G := [(zv_up (zv_up (zv_up (zv_up (zv_up (zv_up r1 6 x3) 7 (g1 (zi_w (48 + x3)))) 8 (g1 (zi_w (24 + x3)))) 9 r4) 10 (zi_rem x1 24)) 11 (zi_div x1 24)), g1, g2, g3, g4, g5, g6]) (G' := [(zv_up (zv_up (zv_up (zv_up (zv_up (zv_up r1 6 x3) 7 (g1 (zi_w (48 + x3)))) 8 (g1 (zi_w (24 + x3)))) 9 r4) 10 (zi_rem x1 24)) 11 (zi_div x1 24)), g1, g2, g3, g4, g5, g6]) (ρ := []) (φ := []) (ψ := []) [none] [none, none, none, none, none, none, none] zyw_M_way zyw_M_isDrawn zye_M_isDrawn (by decide +kernel) (zt_M_way hr8) trivial trivial rfl rfl rfl rfl rfl rfl rfl) zd253_113 zxt247 rfl (by decide) (by decide) rfl ?_
  refine zv_iast hB zd253_116 rfl rfl (by decide) (by decide) ?_
  refine zv_ald hB zd253_117 rfl rfl rfl ?_
  refine zv_con hB zd253_118 rfl ?_
  obtain ⟨r9, hr9, h⟩ := zi_bind h
  refine zv_cv hB (zv_emq (va2 := [.inr 0, .inl 106]) (F := [.inl f0]) (F' := [.inl f0]) (G := [(zv_up (zv_up (zv_up (zv_up (zv_up (zv_up (zv_up r1 6 x3) 7 (g1 (zi_w (48 + x3)))) 8 (g1 (zi_w (24 + x3)))) 9 r4) 10 (zi_rem x1 24)) 11 (zi_div x1 24)) 12 r8), g1, g2, g3, g4, g5, g6]) (G' := [(zv_up (zv_up (zv_up (zv_up (zv_up (zv_up (zv_up r1 6 x3) 7 (g1 (zi_w (48 + x3)))) 8 (g1 (zi_w (24 + x3)))) 9 r4) 10 (zi_rem x1 24)) 11 (zi_div x1 24)) 12 r8), g1, g2, g3, g4, g5, r9.2]) (ρ := [0, 3, 4, 5, 6, 7, 1]) (φ := [0]) (ψ := [2, 3, 4, 5, 6, 0]) [some 0] [some 5, none, some 0, some 1, some 2, some 3, some 4] zyw_M_anyOf zyw_M_isDrawn zye_M_isDrawn (by decide +kernel) (zt_M_anyOf hr9) ⟨⟨_, rfl, fun _ => rfl⟩, trivial⟩ ⟨rfl, rfl, rfl, rfl, rfl, rfl, trivial⟩ rfl rfl rfl rfl rfl rfl rfl) zd253_120 zxt248 rfl (by decide) (by decide) rfl ?_
  obtain ⟨c10, h⟩ := zi_if h
  have hw := Option.some.inj h
  subst hw
  exact hret _ _ _ _ _ zd253_123 (zi_bo_ok c10) ⟨rfl, rfl, rfl⟩
end
section
/-! Methods as functions, and that they do what these do. -/
/-! M_looks (I)V -/
-- names: 0 StarTalesModel('arg', 0), 1 (0, 422)(0, 12, 0), 2 (0, 14)(0, 12, 21), 3 (0, 13)(0, 12, 26), 4 (0, 14)(0, 12, 23), 5 (0, 14)(0, 12, 24), 6 (0, 220)(0, 12, 20), 7 (0, 220)(0, 12, 25), 8 (0, 24)(0, 12, 28)
-- fields: f0 = 0.clauses_, f1 = 0.seen0_; arrays: g0 = 1, g1 = 2, g2 = 3, g3 = 4, g4 = 5, g5 = 6, g6 = 7, g7 = 8; out: [('f', 1), ('g', 2), ('g', 6), ('g', 7)]
abbrev zy_M_looks : zNL := (9, [(0, 12)], [(0, 12, 13, 0), (0, 12, 27, 1)], [(0, 12, 0, 1), (0, 12, 21, 2), (0, 12, 26, 3), (0, 12, 23, 4), (0, 12, 24, 5), (0, 12, 20, 6), (0, 12, 25, 7), (0, 12, 28, 8)], [(1, 0, 422, 0), (2, 0, 14, 1), (3, 0, 13, 2), (4, 0, 14, 3), (5, 0, 14, 4), (6, 0, 220, 5), (7, 0, 220, 6), (8, 0, 24, 7)])
theorem zyw_M_looks : zv_wf zy_M_looks = true := by decide +kernel
theorem zye_M_looks : zv_ek2 zy_M_looks = true := by decide +kernel
def zf_M_looks_l0_b (rec : Int → (Int → Int) → Option ((Int → Int))) (x2 : Int) (g7 : (Int → Int)) : Option ((Int → Int)) := if x2 < 24 then (cond (zi_ix x2 24) (rec (zi_w (x2 + 1)) (zv_up g7 x2 0)) none) else (some g7)
def zf_M_looks_l0 : Nat → Int → (Int → Int) → Option ((Int → Int))
  | 0, _, _ => none
  | n + 1, x2, g7 => zf_M_looks_l0_b (zf_M_looks_l0 n) x2 g7
def zf_M_looks_l2_b (x1 : Int) (x2 : Int) (f0 : Int) (f1 : Int) (g0 : (Int → Int)) (g1 : (Int → Int)) (g3 : (Int → Int)) (g4 : (Int → Int)) (g5 : (Int → Int)) (rec : Int → (Int → Int) → (Int → Int) → (Int → Int) → Option ((Int → Int) × (Int → Int) × (Int → Int))) (x3 : Int) (g2 : (Int → Int)) (g6 : (Int → Int)) (g7 : (Int → Int)) : Option ((Int → Int) × (Int → Int) × (Int → Int)) := if x3 < 24 then ((zf_M_has f1 x2).bind fun r7 => (if r7 = 0 then (some (g2, g6, g7)) else ((zf_M_has f1 x3).bind fun r9 => (if r9 = 0 then (rec (zi_w (x3 + 1)) g2 g6 g7) else ((zf_M_isDrawn x1 x2 x3 f0 g2 g0 g1 g3 g4 g5 g6).bind fun r11 => (if r11.1 = 0 then (rec (zi_w (x3 + 1)) r11.2.1 r11.2.2 g7) else (cond (zi_ix x2 24) (cond (zi_ix x3 24) (rec (zi_w (x3 + 1)) r11.2.1 r11.2.2 (zv_up (zv_up g7 x2 (zi_or (g7 x2) (zi_shl 1 x3))) x3 (zi_or ((zv_up g7 x2 (zi_or (g7 x2) (zi_shl 1 x3))) x3) (zi_shl 1 x2)))) none) none))))))) else (some (g2, g6, g7))
def zf_M_looks_l2 (x1 : Int) (x2 : Int) (f0 : Int) (f1 : Int) (g0 : (Int → Int)) (g1 : (Int → Int)) (g3 : (Int → Int)) (g4 : (Int → Int)) (g5 : (Int → Int)) : Nat → Int → (Int → Int) → (Int → Int) → (Int → Int) → Option ((Int → Int) × (Int → Int) × (Int → Int))
  | 0, _, _, _, _ => none
  | n + 1, x3, g2, g6, g7 => zf_M_looks_l2_b x1 x2 f0 f1 g0 g1 g3 g4 g5 (zf_M_looks_l2 x1 x2 f0 f1 g0 g1 g3 g4 g5 n) x3 g2 g6 g7
def zf_M_looks_l1_b (x1 : Int) (f0 : Int) (f1 : Int) (g0 : (Int → Int)) (g1 : (Int → Int)) (g3 : (Int → Int)) (g4 : (Int → Int)) (g5 : (Int → Int)) (rec : Int → (Int → Int) → (Int → Int) → (Int → Int) → Option ((Int → Int) × (Int → Int) × (Int → Int))) (x2 : Int) (g2 : (Int → Int)) (g6 : (Int → Int)) (g7 : (Int → Int)) : Option ((Int → Int) × (Int → Int) × (Int → Int)) := if x2 < 24 then ((zf_M_looks_l2 x1 x2 f0 f1 g0 g1 g3 g4 g5 zi_fu (zi_w (x2 + 1)) g2 g6 g7).bind fun q15 => (rec (zi_w (x2 + 1)) q15.1 q15.2.1 q15.2.2)) else (some (g2, g6, g7))
def zf_M_looks_l1 (x1 : Int) (f0 : Int) (f1 : Int) (g0 : (Int → Int)) (g1 : (Int → Int)) (g3 : (Int → Int)) (g4 : (Int → Int)) (g5 : (Int → Int)) : Nat → Int → (Int → Int) → (Int → Int) → (Int → Int) → Option ((Int → Int) × (Int → Int) × (Int → Int))
  | 0, _, _, _, _ => none
  | n + 1, x2, g2, g6, g7 => zf_M_looks_l1_b x1 f0 f1 g0 g1 g3 g4 g5 (zf_M_looks_l1 x1 f0 f1 g0 g1 g3 g4 g5 n) x2 g2 g6 g7
def zf_M_looks (x1 : Int) (f0 : Int) (f1 : Int) (g0 : (Int → Int)) (g1 : (Int → Int)) (g2 : (Int → Int)) (g3 : (Int → Int)) (g4 : (Int → Int)) (g5 : (Int → Int)) (g6 : (Int → Int)) (g7 : (Int → Int)) : Option (Int × (Int → Int) × (Int → Int) × (Int → Int)) := (zf_M_seenFrom x1 f0 g0 g1 g2 g3 g4 g5 g6).bind fun r1 => ((zf_M_looks_l0 zi_fu 0 g7).bind fun q4 => ((zf_M_looks_l1 x1 f0 r1.1 g0 g1 g3 g4 g5 zi_fu 0 r1.2.1 r1.2.2 q4).bind fun q16 => (some (r1.1, q16.1, q16.2.1, q16.2.2))))
theorem zd252_0 : decode zxm252.2.1 0 = .ok (.aload_n 0, 1) := by decide +kernel
theorem zd252_1 : decode zxm252.2.1 1 = .ok (.aload_n 0, 1) := by decide +kernel
theorem zd252_2 : decode zxm252.2.1 2 = .ok (.iload_n 1, 1) := by decide +kernel
theorem zd252_3 : decode zxm252.2.1 3 = .ok (.invokevirtual 300, 3) := by decide +kernel
theorem zd252_6 : decode zxm252.2.1 6 = .ok (.putfield 303, 3) := by decide +kernel
theorem zd252_9 : decode zxm252.2.1 9 = .ok (.iconst 0, 1) := by decide +kernel
theorem zd252_10 : decode zxm252.2.1 10 = .ok (.istore_n 2, 1) := by decide +kernel
theorem zd252_11 : decode zxm252.2.1 11 = .ok (.iload_n 2, 1) := by decide +kernel
theorem zd252_12 : decode zxm252.2.1 12 = .ok (.bipush 24, 2) := by decide +kernel
theorem zd252_14 : decode zxm252.2.1 14 = .ok (.if_icmp .ge 16, 3) := by decide +kernel
theorem zd252_17 : decode zxm252.2.1 17 = .ok (.aload_n 0, 1) := by decide +kernel
theorem zd252_18 : decode zxm252.2.1 18 = .ok (.getfield 62, 3) := by decide +kernel
theorem zd252_21 : decode zxm252.2.1 21 = .ok (.iload_n 2, 1) := by decide +kernel
theorem zd252_22 : decode zxm252.2.1 22 = .ok (.iconst 0, 1) := by decide +kernel
theorem zd252_23 : decode zxm252.2.1 23 = .ok (.iastore, 1) := by decide +kernel
theorem zd252_24 : decode zxm252.2.1 24 = .ok (.iinc 2 1, 3) := by decide +kernel
theorem zd252_27 : decode zxm252.2.1 27 = .ok (.goto (-16), 3) := by decide +kernel
theorem zd252_30 : decode zxm252.2.1 30 = .ok (.iconst 0, 1) := by decide +kernel
theorem zd252_31 : decode zxm252.2.1 31 = .ok (.istore_n 2, 1) := by decide +kernel
theorem zd252_32 : decode zxm252.2.1 32 = .ok (.iload_n 2, 1) := by decide +kernel
theorem zd252_33 : decode zxm252.2.1 33 = .ok (.bipush 24, 2) := by decide +kernel
theorem zd252_35 : decode zxm252.2.1 35 = .ok (.if_icmp .ge 92, 3) := by decide +kernel
theorem zd252_38 : decode zxm252.2.1 38 = .ok (.iload_n 2, 1) := by decide +kernel
theorem zd252_39 : decode zxm252.2.1 39 = .ok (.iconst 1, 1) := by decide +kernel
theorem zd252_40 : decode zxm252.2.1 40 = .ok (.iadd, 1) := by decide +kernel
theorem zd252_41 : decode zxm252.2.1 41 = .ok (.istore_n 3, 1) := by decide +kernel
theorem zd252_42 : decode zxm252.2.1 42 = .ok (.iload_n 3, 1) := by decide +kernel
theorem zd252_43 : decode zxm252.2.1 43 = .ok (.bipush 24, 2) := by decide +kernel
theorem zd252_45 : decode zxm252.2.1 45 = .ok (.if_icmp .ge 76, 3) := by decide +kernel
theorem zd252_48 : decode zxm252.2.1 48 = .ok (.aload_n 0, 1) := by decide +kernel
theorem zd252_49 : decode zxm252.2.1 49 = .ok (.getfield 303, 3) := by decide +kernel
theorem zd252_52 : decode zxm252.2.1 52 = .ok (.iload_n 2, 1) := by decide +kernel
theorem zd252_53 : decode zxm252.2.1 53 = .ok (.invokestatic 138, 3) := by decide +kernel
theorem zd252_56 : decode zxm252.2.1 56 = .ok (.ifCond .eq 65, 3) := by decide +kernel
theorem zd252_59 : decode zxm252.2.1 59 = .ok (.aload_n 0, 1) := by decide +kernel
theorem zd252_60 : decode zxm252.2.1 60 = .ok (.getfield 303, 3) := by decide +kernel
theorem zd252_63 : decode zxm252.2.1 63 = .ok (.iload_n 3, 1) := by decide +kernel
theorem zd252_64 : decode zxm252.2.1 64 = .ok (.invokestatic 138, 3) := by decide +kernel
theorem zd252_67 : decode zxm252.2.1 67 = .ok (.ifCond .eq 48, 3) := by decide +kernel
theorem zd252_70 : decode zxm252.2.1 70 = .ok (.aload_n 0, 1) := by decide +kernel
theorem zd252_71 : decode zxm252.2.1 71 = .ok (.iload_n 1, 1) := by decide +kernel
theorem zd252_72 : decode zxm252.2.1 72 = .ok (.iload_n 2, 1) := by decide +kernel
theorem zd252_73 : decode zxm252.2.1 73 = .ok (.iload_n 3, 1) := by decide +kernel
theorem zd252_74 : decode zxm252.2.1 74 = .ok (.invokevirtual 306, 3) := by decide +kernel
theorem zd252_77 : decode zxm252.2.1 77 = .ok (.ifCond .ne 6, 3) := by decide +kernel
theorem zd252_80 : decode zxm252.2.1 80 = .ok (.goto 35, 3) := by decide +kernel
theorem zd252_83 : decode zxm252.2.1 83 = .ok (.aload_n 0, 1) := by decide +kernel
theorem zd252_84 : decode zxm252.2.1 84 = .ok (.getfield 62, 3) := by decide +kernel
theorem zd252_87 : decode zxm252.2.1 87 = .ok (.iload_n 2, 1) := by decide +kernel
theorem zd252_88 : decode zxm252.2.1 88 = .ok (.aload_n 0, 1) := by decide +kernel
theorem zd252_89 : decode zxm252.2.1 89 = .ok (.getfield 62, 3) := by decide +kernel
theorem zd252_92 : decode zxm252.2.1 92 = .ok (.iload_n 2, 1) := by decide +kernel
theorem zd252_93 : decode zxm252.2.1 93 = .ok (.iaload, 1) := by decide +kernel
theorem zd252_94 : decode zxm252.2.1 94 = .ok (.iconst 1, 1) := by decide +kernel
theorem zd252_95 : decode zxm252.2.1 95 = .ok (.iload_n 3, 1) := by decide +kernel
theorem zd252_96 : decode zxm252.2.1 96 = .ok (.ishl, 1) := by decide +kernel
theorem zd252_97 : decode zxm252.2.1 97 = .ok (.ior, 1) := by decide +kernel
theorem zd252_98 : decode zxm252.2.1 98 = .ok (.iastore, 1) := by decide +kernel
theorem zd252_99 : decode zxm252.2.1 99 = .ok (.aload_n 0, 1) := by decide +kernel
theorem zd252_100 : decode zxm252.2.1 100 = .ok (.getfield 62, 3) := by decide +kernel
theorem zd252_103 : decode zxm252.2.1 103 = .ok (.iload_n 3, 1) := by decide +kernel
theorem zd252_104 : decode zxm252.2.1 104 = .ok (.aload_n 0, 1) := by decide +kernel
theorem zd252_105 : decode zxm252.2.1 105 = .ok (.getfield 62, 3) := by decide +kernel
theorem zd252_108 : decode zxm252.2.1 108 = .ok (.iload_n 3, 1) := by decide +kernel
theorem zd252_109 : decode zxm252.2.1 109 = .ok (.iaload, 1) := by decide +kernel
theorem zd252_110 : decode zxm252.2.1 110 = .ok (.iconst 1, 1) := by decide +kernel
theorem zd252_111 : decode zxm252.2.1 111 = .ok (.iload_n 2, 1) := by decide +kernel
theorem zd252_112 : decode zxm252.2.1 112 = .ok (.ishl, 1) := by decide +kernel
theorem zd252_113 : decode zxm252.2.1 113 = .ok (.ior, 1) := by decide +kernel
theorem zd252_114 : decode zxm252.2.1 114 = .ok (.iastore, 1) := by decide +kernel
theorem zd252_115 : decode zxm252.2.1 115 = .ok (.iinc 3 1, 3) := by decide +kernel
theorem zd252_118 : decode zxm252.2.1 118 = .ok (.goto (-76), 3) := by decide +kernel
theorem zd252_121 : decode zxm252.2.1 121 = .ok (.iinc 2 1, 3) := by decide +kernel
theorem zd252_124 : decode zxm252.2.1 124 = .ok (.goto (-92), 3) := by decide +kernel
theorem zd252_127 : decode zxm252.2.1 127 = .ok (.return_, 1) := by decide +kernel
theorem zt_M_looks {x1 : Int} {f0 : Int} {f1 : Int} {g0 : (Int → Int)} {g1 : (Int → Int)} {g2 : (Int → Int)} {g3 : (Int → Int)} {g4 : (Int → Int)} {g5 : (Int → Int)} {g6 : (Int → Int)} {g7 : (Int → Int)} {o : Int × (Int → Int) × (Int → Int) × (Int → Int)} (h : zf_M_looks x1 f0 f1 g0 g1 g2 g3 g4 g5 g6 g7 = some o) : zv_Fn z_TB z_cl z_KX zy_M_looks zxm252 (5, 300) [.inr 0, .inl x1] [.inl f0, .inl f1] [g0, g1, g2, g3, g4, g5, g6, g7] none [.inl f0, .inl o.1] [g0, g1, o.2.1, g3, g4, g5, o.2.2.1, o.2.2.2] := zv_meth (K := (z_KF13, z_KC13, z_KL13, z_KT13, [], [], [], none)) (FT := z_FT) (MT := z_MT) (n := 2) zxp252 (z_ks13 _ (fun _ h => List.mem_cons_of_mem _ h) _ _ _ _ (fun j r h _ => by cases h)) (fun _ _ => zs_KX_p) zyw_M_looks (fun va F G h => by obtain ⟨rfl, _⟩ := h; rfl) (fun va F G h => by obtain ⟨rfl, _⟩ := h; rfl) rfl fun good va F G hB hret hvret hP => by
  obtain ⟨rfl, rfl, rfl⟩ := hP
  have l0 : ∀ (n : Nat) (x1 : Int) (x2 : Int) (f1 : Int) (g2 : (Int → Int)) (g6 : (Int → Int)) (g7 : (Int → Int)) (q : (Int → Int)), zf_M_looks_l0 n x2 g7 = some q → (good 30 [.inr 0, .inl x1, .inr 1000, .inr 1000] [] [.inl f0, .inl f1] [g0, g1, g2, g3, g4, g5, g6, q]) → good 11 [.inr 0, .inl x1, .inl x2, .inr 1000] [] [.inl f0, .inl f1] [g0, g1, g2, g3, g4, g5, g6, g7] := by
    intro n
    induction n with
    | zero => intro x1 x2 f1 g2 g6 g7 q h; exact absurd (show none = some q from h) (fun h => by cases h)
    | succ n ih =>
      intro x1 x2 f1 g2 g6 g7 q h hK
      replace h : zf_M_looks_l0_b (zf_M_looks_l0 n) x2 g7 = some q := h
      unfold zf_M_looks_l0_b at h
      refine zv_ild hB zd252_11 rfl rfl ?_
      refine zv_con hB zd252_12 rfl ?_
      refine zv_cge hB zd252_14 rfl (fun hc2 => ?_) (fun hc2 => ?_)
      · rw [if_neg (Int.not_lt.mpr hc2)] at h
        have hq := Option.some.inj h
        subst hq
        refine zv_wk hB (L' := [.inr 0, .inl x1, .inr 1000, .inr 1000]) (F' := [.inl f0, .inl f1]) ⟨fun _ => rfl, fun _ => rfl, fun (h : zv_is (.inr 1000)) => (Nat.lt_irrefl 1000 h).elim, fun (h : zv_is (.inr 1000)) => (Nat.lt_irrefl 1000 h).elim, trivial⟩ ⟨fun _ => rfl, fun _ => rfl, trivial⟩ ?_
        exact hK
      · rw [if_pos hc2] at h
        refine zv_ald hB zd252_17 rfl rfl rfl ?_
        refine zv_getr hB zd252_18 rfl ?_
        refine zv_ild hB zd252_21 rfl rfl ?_
        refine zv_con hB zd252_22 rfl ?_
        obtain ⟨c3, h⟩ := zi_if h
        refine zv_iast hB zd252_23 rfl rfl (zi_ix_ok c3).1 (zi_ix_ok c3).2 ?_
        refine zv_iincw hB zd252_24 rfl rfl ?_
        refine zv_goto hB zd252_27 rfl ?_
        exact ih _ _ _ _ _ _ q h hK
  have l2 : ∀ (n : Nat) (x1 : Int) (x2 : Int) (x3 : Int) (f1 : Int) (g2 : (Int → Int)) (g6 : (Int → Int)) (g7 : (Int → Int)) (q : (Int → Int) × (Int → Int) × (Int → Int)), zf_M_looks_l2 x1 x2 f0 f1 g0 g1 g3 g4 g5 n x3 g2 g6 g7 = some q → (good 121 [.inr 0, .inl x1, .inl x2, .inr 1000] [] [.inl f0, .inl f1] [g0, g1, q.1, g3, g4, g5, q.2.1, q.2.2]) → good 42 [.inr 0, .inl x1, .inl x2, .inl x3] [] [.inl f0, .inl f1] [g0, g1, g2, g3, g4, g5, g6, g7] := by
    intro n
    induction n with
    | zero => intro x1 x2 x3 f1 g2 g6 g7 q h; exact absurd (show none = some q from h) (fun h => by cases h)
    | succ n ih =>
      intro x1 x2 x3 f1 g2 g6 g7 q h hK
      replace h : zf_M_looks_l2_b x1 x2 f0 f1 g0 g1 g3 g4 g5 (zf_M_looks_l2 x1 x2 f0 f1 g0 g1 g3 g4 g5 n) x3 g2 g6 g7 = some q := h
      unfold zf_M_looks_l2_b at h
      refine zv_ild hB zd252_42 rfl rfl ?_
      refine zv_con hB zd252_43 rfl ?_
      refine zv_cge hB zd252_45 rfl (fun hc6 => ?_) (fun hc6 => ?_)
      · rw [if_neg (Int.not_lt.mpr hc6)] at h
        have hq := Option.some.inj h
        subst hq
        refine zv_wk hB (L' := [.inr 0, .inl x1, .inl x2, .inr 1000]) (F' := [.inl f0, .inl f1]) ⟨fun _ => rfl, fun _ => rfl, fun _ => rfl, fun (h : zv_is (.inr 1000)) => (Nat.lt_irrefl 1000 h).elim, trivial⟩ ⟨fun _ => rfl, fun _ => rfl, trivial⟩ ?_
        exact hK
      · rw [if_pos hc6] at h
        refine zv_ald hB zd252_48 rfl rfl rfl ?_
        refine zv_getf hB zd252_49 rfl rfl (fun _ _ => ?_)
        refine zv_ild hB zd252_52 rfl rfl ?_
        obtain ⟨r7, hr7, h⟩ := zi_bind h
        refine zv_cs hB (zv_emq (va2 := [.inl f1, .inl x2]) (F := [.inl f0, .inl f1]) (F' := [.inl f0, .inl f1]) (G := [g0, g1, g2, g3, g4, g5, g6, g7]) (G' := [g0, g1, g2, g3, g4, g5, g6, g7]) (ρ := []) (φ := []) (ψ := []) [none, none] [none, none, none, none, none, none, none, none] zyw_M_has zyw_M_looks zye_M_looks (by decide +kernel) (zt_M_has hr7) trivial trivial rfl rfl rfl rfl rfl rfl rfl) zd252_53 zxt204 rfl (by decide) (by decide) rfl ?_
        refine zv_zeq hB zd252_56 rfl (fun hc8 => ?_) (fun hc8 => ?_)
        · rw [if_pos hc8] at h
          have hq := Option.some.inj h
          subst hq
          refine zv_wk hB (L' := [.inr 0, .inl x1, .inl x2, .inr 1000]) (F' := [.inl f0, .inl f1]) ⟨fun _ => rfl, fun _ => rfl, fun _ => rfl, fun (h : zv_is (.inr 1000)) => (Nat.lt_irrefl 1000 h).elim, trivial⟩ ⟨fun _ => rfl, fun _ => rfl, trivial⟩ ?_
          exact hK
        · rw [if_neg hc8] at h
          refine zv_ald hB zd252_59 rfl rfl rfl ?_
          refine zv_getf hB zd252_60 rfl rfl (fun _ _ => ?_)
          refine zv_ild hB zd252_63 rfl rfl ?_
          obtain ⟨r9, hr9, h⟩ := zi_bind h
          refine zv_cs hB (zv_emq (va2 := [.inl f1, .inl x3]) (F := [.inl f0, .inl f1]) (F' := [.inl f0, .inl f1]) (G := [g0, g1, g2, g3, g4, g5, g6, g7]) (G' := [g0, g1, g2, g3, g4, g5, g6, g7]) (ρ := []) (φ := []) (ψ := []) [none, none] [none, none, none, none, none, none, none, none] zyw_M_has zyw_M_looks zye_M_looks (by decide +kernel) (zt_M_has hr9) trivial trivial rfl rfl rfl rfl rfl rfl rfl) zd252_64 zxt204 rfl (by decide) (by decide) rfl ?_
          refine zv_zeq hB zd252_67 rfl (fun hc10 => ?_) (fun hc10 => ?_)
          · rw [if_pos hc10] at h
            refine zv_iincw hB zd252_115 rfl rfl ?_
            refine zv_goto hB zd252_118 rfl ?_
            exact ih _ _ _ _ _ _ _ q h hK
          · rw [if_neg hc10] at h
            refine zv_ald hB zd252_70 rfl rfl rfl ?_
            refine zv_ild hB zd252_71 rfl rfl ?_
            refine zv_ild hB zd252_72 rfl rfl ?_
            refine zv_ild hB zd252_73 rfl rfl ?_
            obtain ⟨r11, hr11, h⟩ := zi_bind h
            refine zv_cv hB (zv_emq (va2 := [.inr 0, .inl x1, .inl x2, .inl x3]) (F := [.inl f0, .inl f1]) (F' := [.inl f0, .inl f1]) (G := [g0, g1, g2, g3, g4, g5, g6, g7]) (G' := [g0, g1, r11.2.1, g3, g4, g5, r11.2.2, g7]) (ρ := [0, 3, 1, 2, 4, 5, 6, 7]) (φ := [0]) (ψ := [2, 0, 1, 3, 4, 5, 6]) [some 0, none] [some 1, some 2, some 0, some 3, some 4, some 5, some 6, none] zyw_M_isDrawn zyw_M_looks zye_M_looks (by decide +kernel) (zt_M_isDrawn hr11) ⟨⟨_, rfl, fun _ => rfl⟩, trivial⟩ ⟨rfl, rfl, rfl, rfl, rfl, rfl, rfl, trivial⟩ rfl rfl rfl rfl rfl rfl rfl) zd252_74 zxt253 rfl (by decide) (by decide) rfl ?_
            refine zv_zne hB zd252_77 rfl (fun hc12 => ?_) (fun hc12 => ?_)
            · rw [if_neg hc12] at h
              refine zv_ald hB zd252_83 rfl rfl rfl ?_
              refine zv_getr hB zd252_84 rfl ?_
              refine zv_ild hB zd252_87 rfl rfl ?_
              refine zv_ald hB zd252_88 rfl rfl rfl ?_
              refine zv_getr hB zd252_89 rfl ?_
              refine zv_ild hB zd252_92 rfl rfl ?_
              obtain ⟨c13, h⟩ := zi_if h
              refine zv_iald hB zd252_93 rfl rfl (zi_ix_ok c13).1 (zi_ix_ok c13).2 (fun _ _ => ?_)
              refine zv_con hB zd252_94 rfl ?_
              refine zv_ild hB zd252_95 rfl rfl ?_
              refine zv_shlw hB zd252_96 ?_
              refine zv_orw hB zd252_97 ?_
              refine zv_iast hB zd252_98 rfl rfl (zi_ix_ok c13).1 (zi_ix_ok c13).2 ?_
              refine zv_ald hB zd252_99 rfl rfl rfl ?_
              refine zv_getr hB zd252_100 rfl ?_
              refine zv_ild hB zd252_103 rfl rfl ?_
              refine zv_ald hB zd252_104 rfl rfl rfl ?_
              refine zv_getr hB zd252_105 rfl ?_
              refine zv_ild hB zd252_108 rfl rfl ?_
              obtain ⟨c14, h⟩ := zi_if h
              refine zv_iald hB zd252_109 rfl rfl (zi_ix_ok c14).1 (zi_ix_ok c14).2 (fun _ _ => ?_)
              refine zv_con hB zd252_110 rfl ?_
              refine zv_ild hB zd252_111 rfl rfl ?_
              refine zv_shlw hB zd252_112 ?_
              refine zv_orw hB zd252_113 ?_
              refine zv_iast hB zd252_114 rfl rfl (zi_ix_ok c14).1 (zi_ix_ok c14).2 ?_
              refine zv_iincw hB zd252_115 rfl rfl ?_
              refine zv_goto hB zd252_118 rfl ?_
              exact ih _ _ _ _ _ _ _ q h hK
            · rw [if_pos hc12] at h
              refine zv_goto hB zd252_80 rfl ?_
              refine zv_iincw hB zd252_115 rfl rfl ?_
              refine zv_goto hB zd252_118 rfl ?_
              exact ih _ _ _ _ _ _ _ q h hK
  have l1 : ∀ (n : Nat) (x1 : Int) (x2 : Int) (f1 : Int) (g2 : (Int → Int)) (g6 : (Int → Int)) (g7 : (Int → Int)) (q : (Int → Int) × (Int → Int) × (Int → Int)), zf_M_looks_l1 x1 f0 f1 g0 g1 g3 g4 g5 n x2 g2 g6 g7 = some q → (good 127 [.inr 1000, .inr 1000, .inr 1000, .inr 1000] [] [.inl f0, .inl f1] [g0, g1, q.1, g3, g4, g5, q.2.1, q.2.2]) → good 32 [.inr 0, .inl x1, .inl x2, .inr 1000] [] [.inl f0, .inl f1] [g0, g1, g2, g3, g4, g5, g6, g7] := by
    intro n
    induction n with
    | zero => intro x1 x2 f1 g2 g6 g7 q h; exact absurd (show none = some q from h) (fun h => by cases h)
    | succ n ih =>
      intro x1 x2 f1 g2 g6 g7 q h hK
      replace h : zf_M_looks_l1_b x1 f0 f1 g0 g1 g3 g4 g5 (zf_M_looks_l1 x1 f0 f1 g0 g1 g3 g4 g5 n) x2 g2 g6 g7 = some q := h
      unfold zf_M_looks_l1_b at h
      refine zv_ild hB zd252_32 rfl rfl ?_
      refine zv_con hB zd252_33 rfl ?_
      refine zv_cge hB zd252_35 rfl (fun hc5 => ?_) (fun hc5 => ?_)
      · rw [if_neg (Int.not_lt.mpr hc5)] at h
        have hq := Option.some.inj h
        subst hq
        refine zv_wk hB (L' := [.inr 1000, .inr 1000, .inr 1000, .inr 1000]) (F' := [.inl f0, .inl f1]) ⟨fun (h : zv_is (.inr 1000)) => (Nat.lt_irrefl 1000 h).elim, fun (h : zv_is (.inr 1000)) => (Nat.lt_irrefl 1000 h).elim, fun (h : zv_is (.inr 1000)) => (Nat.lt_irrefl 1000 h).elim, fun (h : zv_is (.inr 1000)) => (Nat.lt_irrefl 1000 h).elim, trivial⟩ ⟨fun _ => rfl, fun _ => rfl, trivial⟩ ?_
        exact hK
      · rw [if_pos hc5] at h
        refine zv_ild hB zd252_38 rfl rfl ?_
        refine zv_con hB zd252_39 rfl ?_
        refine zv_addw hB zd252_40 ?_
        refine zv_ist hB zd252_41 rfl rfl rfl ?_
        obtain ⟨q15, hq15, h⟩ := zi_bind h
        refine l2 _ _ _ _ _ _ _ _ q15 hq15 ?_
        show good 121 [.inr 0, .inl x1, .inl x2, .inr 1000] [] [.inl f0, .inl f1] [g0, g1, q15.1, g3, g4, g5, q15.2.1, q15.2.2]
        refine zv_iincw hB zd252_121 rfl rfl ?_
        refine zv_goto hB zd252_124 rfl ?_
        exact ih _ _ _ _ _ _ q h hK
  unfold zf_M_looks at h
  refine zv_ald hB zd252_0 rfl rfl rfl ?_
  refine zv_ald hB zd252_1 rfl rfl rfl ?_
  refine zv_ild hB zd252_2 rfl rfl ?_
  obtain ⟨r1, hr1, h⟩ := zi_bind h
  refine zv_cv hB (zv_emq (va2 := [.inr 0, .inl x1]) (F := [.inl f0, .inl f1]) (F' := [.inl f0, .inl f1]) (G := [g0, g1, g2, g3, g4, g5, g6, g7]) (G' := [g0, g1, r1.2.1, g3, g4, g5, r1.2.2, g7]) (ρ := [0, 1, 2, 3, 4, 5, 6, 7]) (φ := [0]) (ψ := [0, 1, 2, 3, 4, 5, 6]) [some 0, none] [some 0, some 1, some 2, some 3, some 4, some 5, some 6, none] zyw_M_seenFrom zyw_M_looks zye_M_looks (by decide +kernel) (zt_M_seenFrom hr1) ⟨⟨_, rfl, fun _ => rfl⟩, trivial⟩ ⟨rfl, rfl, rfl, rfl, rfl, rfl, rfl, trivial⟩ rfl rfl rfl rfl rfl rfl rfl) zd252_3 zxt240 rfl (by decide) (by decide) rfl ?_
  refine zv_putf hB zd252_6 rfl rfl (fun h => by cases h) rfl ?_
  refine zv_con hB zd252_9 rfl ?_
  refine zv_ist hB zd252_10 rfl rfl rfl ?_
  obtain ⟨q4, hq4, h⟩ := zi_bind h
  refine l0 _ _ _ _ _ _ _ q4 hq4 ?_
  show good 30 [.inr 0, .inl x1, .inr 1000, .inr 1000] [] [.inl f0, .inl r1.1] [g0, g1, r1.2.1, g3, g4, g5, r1.2.2, q4]
  refine zv_con hB zd252_30 rfl ?_
  refine zv_ist hB zd252_31 rfl rfl rfl ?_
  obtain ⟨q16, hq16, h⟩ := zi_bind h
  refine l1 _ _ _ _ _ _ _ q16 hq16 ?_
  show good 127 [.inr 1000, .inr 1000, .inr 1000, .inr 1000] [] [.inl f0, .inl r1.1] [g0, g1, q16.1, g3, g4, g5, q16.2.1, q16.2.2]
  have hw := Option.some.inj h
  subst hw
  exact hvret _ _ _ _ zd252_127 trivial ⟨rfl, rfl, rfl⟩
/-! M_line (IIII)I -/
-- names: 0 StarTalesModel('arg', 0), 1 (0, 422)(0, 12, 0), 2 (0, 14)(0, 12, 21), 3 (0, 13)(0, 12, 26), 4 (0, 14)(0, 12, 23), 5 (0, 14)(0, 12, 24), 6 (0, 220)(0, 12, 20), 7 (0, 220)(0, 12, 25), 8 (0, 24)(0, 12, 28)
-- fields: f0 = 0.clauses_, f1 = 0.seen0_; arrays: g0 = 1, g1 = 2, g2 = 3, g3 = 4, g4 = 5, g5 = 6, g6 = 7, g7 = 8; out: [('ret', None), ('f', 1), ('g', 2), ('g', 6), ('g', 7)]
abbrev zy_M_line : zNL := (9, [(0, 12)], [(0, 12, 13, 0), (0, 12, 27, 1)], [(0, 12, 0, 1), (0, 12, 21, 2), (0, 12, 26, 3), (0, 12, 23, 4), (0, 12, 24, 5), (0, 12, 20, 6), (0, 12, 25, 7), (0, 12, 28, 8)], [(1, 0, 422, 0), (2, 0, 14, 1), (3, 0, 13, 2), (4, 0, 14, 3), (5, 0, 14, 4), (6, 0, 220, 5), (7, 0, 220, 6), (8, 0, 24, 7)])
theorem zyw_M_line : zv_wf zy_M_line = true := by decide +kernel
theorem zye_M_line : zv_ek2 zy_M_line = true := by decide +kernel
def zf_M_line (x1 : Int) (x2 : Int) (x3 : Int) (x4 : Int) (f0 : Int) (f1 : Int) (g0 : (Int → Int)) (g1 : (Int → Int)) (g2 : (Int → Int)) (g3 : (Int → Int)) (g4 : (Int → Int)) (g5 : (Int → Int)) (g6 : (Int → Int)) (g7 : (Int → Int)) : Option (Int × Int × (Int → Int) × (Int → Int) × (Int → Int)) := (zf_M_isPlace x1 x2).bind fun r1 => (if r1 = 0 then (some ((-1), f1, g2, g6, g7)) else ((zf_M_isTold x3 g0).bind fun r3 => (if r3 = 0 then (some ((-1), f1, g2, g6, g7)) else ((zf_M_isTold x4 g0).bind fun r5 => (if r5 = 0 then (some ((-1), f1, g2, g6, g7)) else (if x3 = x4 then (some ((-1), f1, g2, g6, g7)) else ((zf_M_looks (zi_w ((zi_w (24 * x2)) + x1)) f0 f1 g0 g1 g2 g3 g4 g5 g6 g7).bind fun r8 => (cond (zi_ix x3 24) ((zf_M_has (r8.2.2.2 x3) x4).bind fun r10 => (if r10 = 0 then (some (0, r8.1, r8.2.1, r8.2.2.1, r8.2.2.2)) else (some (1, r8.1, r8.2.1, r8.2.2.1, r8.2.2.2)))) none))))))))
theorem zd251_0 : decode zxm251.2.1 0 = .ok (.iload_n 1, 1) := by decide +kernel
theorem zd251_1 : decode zxm251.2.1 1 = .ok (.iload_n 2, 1) := by decide +kernel
theorem zd251_2 : decode zxm251.2.1 2 = .ok (.invokestatic 154, 3) := by decide +kernel
theorem zd251_5 : decode zxm251.2.1 5 = .ok (.ifCond .eq 26, 3) := by decide +kernel
theorem zd251_8 : decode zxm251.2.1 8 = .ok (.aload_n 0, 1) := by decide +kernel
theorem zd251_9 : decode zxm251.2.1 9 = .ok (.iload_n 3, 1) := by decide +kernel
theorem zd251_10 : decode zxm251.2.1 10 = .ok (.invokevirtual 157, 3) := by decide +kernel
theorem zd251_13 : decode zxm251.2.1 13 = .ok (.ifCond .eq 18, 3) := by decide +kernel
theorem zd251_16 : decode zxm251.2.1 16 = .ok (.aload_n 0, 1) := by decide +kernel
theorem zd251_17 : decode zxm251.2.1 17 = .ok (.iload 4, 2) := by decide +kernel
theorem zd251_19 : decode zxm251.2.1 19 = .ok (.invokevirtual 157, 3) := by decide +kernel
theorem zd251_22 : decode zxm251.2.1 22 = .ok (.ifCond .eq 9, 3) := by decide +kernel
theorem zd251_25 : decode zxm251.2.1 25 = .ok (.iload_n 3, 1) := by decide +kernel
theorem zd251_26 : decode zxm251.2.1 26 = .ok (.iload 4, 2) := by decide +kernel
theorem zd251_28 : decode zxm251.2.1 28 = .ok (.if_icmp .ne 5, 3) := by decide +kernel
theorem zd251_31 : decode zxm251.2.1 31 = .ok (.iconst (-1), 1) := by decide +kernel
theorem zd251_32 : decode zxm251.2.1 32 = .ok (.ireturn, 1) := by decide +kernel
theorem zd251_33 : decode zxm251.2.1 33 = .ok (.aload_n 0, 1) := by decide +kernel
theorem zd251_34 : decode zxm251.2.1 34 = .ok (.bipush 24, 2) := by decide +kernel
theorem zd251_36 : decode zxm251.2.1 36 = .ok (.iload_n 2, 1) := by decide +kernel
theorem zd251_37 : decode zxm251.2.1 37 = .ok (.imul, 1) := by decide +kernel
theorem zd251_38 : decode zxm251.2.1 38 = .ok (.iload_n 1, 1) := by decide +kernel
theorem zd251_39 : decode zxm251.2.1 39 = .ok (.iadd, 1) := by decide +kernel
theorem zd251_40 : decode zxm251.2.1 40 = .ok (.invokevirtual 309, 3) := by decide +kernel
theorem zd251_43 : decode zxm251.2.1 43 = .ok (.aload_n 0, 1) := by decide +kernel
theorem zd251_44 : decode zxm251.2.1 44 = .ok (.getfield 62, 3) := by decide +kernel
theorem zd251_47 : decode zxm251.2.1 47 = .ok (.iload_n 3, 1) := by decide +kernel
theorem zd251_48 : decode zxm251.2.1 48 = .ok (.iaload, 1) := by decide +kernel
theorem zd251_49 : decode zxm251.2.1 49 = .ok (.iload 4, 2) := by decide +kernel
theorem zd251_51 : decode zxm251.2.1 51 = .ok (.invokestatic 138, 3) := by decide +kernel
theorem zd251_54 : decode zxm251.2.1 54 = .ok (.ifCond .eq 7, 3) := by decide +kernel
theorem zd251_57 : decode zxm251.2.1 57 = .ok (.iconst 1, 1) := by decide +kernel
theorem zd251_58 : decode zxm251.2.1 58 = .ok (.goto 4, 3) := by decide +kernel
theorem zd251_61 : decode zxm251.2.1 61 = .ok (.iconst 0, 1) := by decide +kernel
theorem zd251_62 : decode zxm251.2.1 62 = .ok (.ireturn, 1) := by decide +kernel
theorem zt_M_line {x1 : Int} {x2 : Int} {x3 : Int} {x4 : Int} {f0 : Int} {f1 : Int} {g0 : (Int → Int)} {g1 : (Int → Int)} {g2 : (Int → Int)} {g3 : (Int → Int)} {g4 : (Int → Int)} {g5 : (Int → Int)} {g6 : (Int → Int)} {g7 : (Int → Int)} {o : Int × Int × (Int → Int) × (Int → Int) × (Int → Int)} (h : zf_M_line x1 x2 x3 x4 f0 f1 g0 g1 g2 g3 g4 g5 g6 g7 = some o) : zv_Fn z_TB z_cl z_KX zy_M_line zxm251 (6, 360) [.inr 0, .inl x1, .inl x2, .inl x3, .inl x4] [.inl f0, .inl f1] [g0, g1, g2, g3, g4, g5, g6, g7] (some o.1) [.inl f0, .inl o.2.1] [g0, g1, o.2.2.1, g3, g4, g5, o.2.2.2.1, o.2.2.2.2] := zv_meth (K := (z_KF13, z_KC13, z_KL13, z_KT13, [], [], [], none)) (FT := z_FT) (MT := z_MT) (n := 5) zxp251 (z_ks13 _ (fun _ h => List.mem_cons_of_mem _ h) _ _ _ _ (fun j r h _ => by cases h)) (fun _ _ => zs_KX_p) zyw_M_line (fun va F G h => by obtain ⟨rfl, _⟩ := h; rfl) (fun va F G h => by obtain ⟨rfl, _⟩ := h; rfl) rfl fun good va F G hB hret hvret hP => by
  obtain ⟨rfl, rfl, rfl⟩ := hP
  unfold zf_M_line at h
  refine zv_ild hB zd251_0 rfl rfl ?_
  refine zv_ild hB zd251_1 rfl rfl ?_
  obtain ⟨r1, hr1, h⟩ := zi_bind h
  refine zv_cs hB (zv_emq (va2 := [.inl x1, .inl x2]) (F := [.inl f0, .inl f1]) (F' := [.inl f0, .inl f1]) (G := [g0, g1, g2, g3, g4, g5, g6, g7]) (G' := [g0, g1, g2, g3, g4, g5, g6, g7]) (ρ := []) (φ := []) (ψ := []) [none, none] [none, none, none, none, none, none, none, none] zyw_M_isPlace zyw_M_line zye_M_line (by decide +kernel) (zt_M_isPlace hr1) trivial trivial rfl rfl rfl rfl rfl rfl rfl) zd251_2 zxt201 rfl (by decide) (by decide) rfl ?_
  refine zv_zeq hB zd251_5 rfl (fun hc2 => ?_) (fun hc2 => ?_)
  · rw [if_pos hc2] at h
    refine zv_con hB zd251_31 rfl ?_
    have hw := Option.some.inj h
    subst hw
    exact hret _ _ _ _ _ zd251_32 (by trivial) ⟨rfl, rfl, rfl⟩
  · rw [if_neg hc2] at h
    refine zv_ald hB zd251_8 rfl rfl rfl ?_
    refine zv_ild hB zd251_9 rfl rfl ?_
    obtain ⟨r3, hr3, h⟩ := zi_bind h
    refine zv_cv hB (zv_emq (va2 := [.inr 0, .inl x3]) (F := [.inl f0, .inl f1]) (F' := [.inl f0, .inl f1]) (G := [g0, g1, g2, g3, g4, g5, g6, g7]) (G' := [g0, g1, g2, g3, g4, g5, g6, g7]) (ρ := [0, 1]) (φ := []) (ψ := [0]) [none, none] [some 0, none, none, none, none, none, none, none] zyw_M_isTold zyw_M_line zye_M_line (by decide +kernel) (zt_M_isTold hr3) trivial ⟨rfl, trivial⟩ rfl rfl rfl rfl rfl rfl rfl) zd251_10 zxt203 rfl (by decide) (by decide) rfl ?_
    refine zv_zeq hB zd251_13 rfl (fun hc4 => ?_) (fun hc4 => ?_)
    · rw [if_pos hc4] at h
      refine zv_con hB zd251_31 rfl ?_
      have hw := Option.some.inj h
      subst hw
      exact hret _ _ _ _ _ zd251_32 (by trivial) ⟨rfl, rfl, rfl⟩
    · rw [if_neg hc4] at h
      refine zv_ald hB zd251_16 rfl rfl rfl ?_
      refine zv_ild hB zd251_17 rfl rfl ?_
      obtain ⟨r5, hr5, h⟩ := zi_bind h
      refine zv_cv hB (zv_emq (va2 := [.inr 0, .inl x4]) (F := [.inl f0, .inl f1]) (F' := [.inl f0, .inl f1]) (G := [g0, g1, g2, g3, g4, g5, g6, g7]) (G' := [g0, g1, g2, g3, g4, g5, g6, g7]) (ρ := [0, 1]) (φ := []) (ψ := [0]) [none, none] [some 0, none, none, none, none, none, none, none] zyw_M_isTold zyw_M_line zye_M_line (by decide +kernel) (zt_M_isTold hr5) trivial ⟨rfl, trivial⟩ rfl rfl rfl rfl rfl rfl rfl) zd251_19 zxt203 rfl (by decide) (by decide) rfl ?_
      refine zv_zeq hB zd251_22 rfl (fun hc6 => ?_) (fun hc6 => ?_)
      · rw [if_pos hc6] at h
        refine zv_con hB zd251_31 rfl ?_
        have hw := Option.some.inj h
        subst hw
        exact hret _ _ _ _ _ zd251_32 (by trivial) ⟨rfl, rfl, rfl⟩
      · rw [if_neg hc6] at h
        refine zv_ild hB zd251_25 rfl rfl ?_
        refine zv_ild hB zd251_26 rfl rfl ?_
        refine zv_cne hB zd251_28 rfl (fun hc7 => ?_) (fun hc7 => ?_)
        · rw [if_neg hc7] at h
          refine zv_ald hB zd251_33 rfl rfl rfl ?_
          refine zv_con hB zd251_34 rfl ?_
          refine zv_ild hB zd251_36 rfl rfl ?_
          refine zv_mulw hB zd251_37 ?_
          refine zv_ild hB zd251_38 rfl rfl ?_
          refine zv_addw hB zd251_39 ?_
          obtain ⟨r8, hr8, h⟩ := zi_bind h
          refine zv_cv hB (zv_emq (va2 := [.inr 0, .inl (zi_w ((zi_w (24 * x2)) + x1))]) (F := [.inl f0, .inl f1]) (F' := [.inl f0, .inl r8.1]) (G := [g0, g1, g2, g3, g4, g5, g6, g7]) (G' := [g0, g1, r8.2.1, g3, g4, g5, r8.2.2.1, r8.2.2.2]) (ρ := [0, 1, 2, 3, 4, 5, 6, 7, 8]) (φ := [0, 1]) (ψ := [0, 1, 2, 3, 4, 5, 6, 7]) [some 0, some 1] [some 0, some 1, some 2, some 3, some 4, some 5, some 6, some 7] zyw_M_looks zyw_M_line zye_M_line (by decide +kernel) (zt_M_looks hr8) ⟨⟨_, rfl, fun _ => rfl⟩, ⟨_, rfl, fun _ => rfl⟩, trivial⟩ ⟨rfl, rfl, rfl, rfl, rfl, rfl, rfl, rfl, trivial⟩ rfl rfl rfl rfl rfl rfl rfl) zd251_40 zxt252 rfl (by decide) (by decide) rfl ?_
          refine zv_ald hB zd251_43 rfl rfl rfl ?_
          refine zv_getr hB zd251_44 rfl ?_
          refine zv_ild hB zd251_47 rfl rfl ?_
          obtain ⟨c9, h⟩ := zi_if h
          refine zv_iald hB zd251_48 rfl rfl (zi_ix_ok c9).1 (zi_ix_ok c9).2 (fun _ _ => ?_)
          refine zv_ild hB zd251_49 rfl rfl ?_
          obtain ⟨r10, hr10, h⟩ := zi_bind h
          refine zv_cs hB (zv_emq (va2 := [.inl (r8.2.2.2 x3), .inl x4]) (F := [.inl f0, .inl r8.1]) (F' := [.inl f0, .inl r8.1]) (G := [g0, g1, r8.2.1, g3, g4, g5, r8.2.2.1, r8.2.2.2]) (G' := [g0, g1, r8.2.1, g3, g4, g5, r8.2.2.1, r8.2.2.2]) (ρ := []) (φ := []) (ψ := []) [none, none] [none, none, none, none, none, none, none, none] zyw_M_has zyw_M_line zye_M_line (by decide +kernel) (zt_M_has hr10) trivial trivial rfl rfl rfl rfl rfl rfl rfl) zd251_51 zxt204 rfl (by decide) (by decide) rfl ?_
          refine zv_zeq hB zd251_54 rfl (fun hc11 => ?_) (fun hc11 => ?_)
          · rw [if_pos hc11] at h
            refine zv_con hB zd251_61 rfl ?_
            have hw := Option.some.inj h
            subst hw
            exact hret _ _ _ _ _ zd251_62 (by trivial) ⟨rfl, rfl, rfl⟩
          · rw [if_neg hc11] at h
            refine zv_con hB zd251_57 rfl ?_
            refine zv_goto hB zd251_58 rfl ?_
            have hw := Option.some.inj h
            subst hw
            exact hret _ _ _ _ _ zd251_62 (by trivial) ⟨rfl, rfl, rfl⟩
        · rw [if_pos hc7] at h
          refine zv_con hB zd251_31 rfl ?_
          have hw := Option.some.inj h
          subst hw
          exact hret _ _ _ _ _ zd251_32 (by trivial) ⟨rfl, rfl, rfl⟩
/-! M_figureOf (I)I -/
-- names: 0 StarTalesModel('arg', 0), 1 (0, 24)(0, 12, 28)
-- fields: ; arrays: g0 = 1; out: [('ret', None)]
abbrev zy_M_figureOf : zNL := (2, [(0, 12)], [], [(0, 12, 28, 1)], [(1, 0, 24, 0)])
theorem zyw_M_figureOf : zv_wf zy_M_figureOf = true := by decide +kernel
theorem zye_M_figureOf : zv_ek2 zy_M_figureOf = true := by decide +kernel
def zf_M_figureOf_l1_b (x3 : Int) (g0 : (Int → Int)) (rec : Int → Int → Option (Int)) (x2 : Int) (x4 : Int) : Option (Int) := if x4 < 24 then ((zf_M_has x3 x4).bind fun r3 => (if r3 = 0 then (rec x2 (zi_w (x4 + 1))) else (cond (zi_ix x4 24) (rec (zi_or x2 (g0 x4)) (zi_w (x4 + 1))) none))) else (some x2)
def zf_M_figureOf_l1 (x3 : Int) (g0 : (Int → Int)) : Nat → Int → Int → Option (Int)
  | 0, _, _ => none
  | n + 1, x2, x4 => zf_M_figureOf_l1_b x3 g0 (zf_M_figureOf_l1 x3 g0 n) x2 x4
def zf_M_figureOf_l0_b (g0 : (Int → Int)) (rec : Int → Int → Option (Int)) (x2 : Int) (x3 : Int) : Option (Int) := if x3 = x2 then (some x2) else ((zf_M_figureOf_l1 x2 g0 zi_fu x2 0).bind fun q6 => (rec q6 x2))
def zf_M_figureOf_l0 (g0 : (Int → Int)) : Nat → Int → Int → Option (Int)
  | 0, _, _ => none
  | n + 1, x2, x3 => zf_M_figureOf_l0_b g0 (zf_M_figureOf_l0 g0 n) x2 x3
def zf_M_figureOf (x1 : Int) (g0 : (Int → Int)) : Option (Int) := (zf_M_figureOf_l0 g0 zi_fu (zi_shl 1 x1) 0).bind fun q7 => (some q7)
theorem zd256_0 : decode zxm256.2.1 0 = .ok (.iconst 1, 1) := by decide +kernel
theorem zd256_1 : decode zxm256.2.1 1 = .ok (.iload_n 1, 1) := by decide +kernel
theorem zd256_2 : decode zxm256.2.1 2 = .ok (.ishl, 1) := by decide +kernel
theorem zd256_3 : decode zxm256.2.1 3 = .ok (.istore_n 2, 1) := by decide +kernel
theorem zd256_4 : decode zxm256.2.1 4 = .ok (.iconst 0, 1) := by decide +kernel
theorem zd256_5 : decode zxm256.2.1 5 = .ok (.istore_n 3, 1) := by decide +kernel
theorem zd256_6 : decode zxm256.2.1 6 = .ok (.iload_n 3, 1) := by decide +kernel
theorem zd256_7 : decode zxm256.2.1 7 = .ok (.iload_n 2, 1) := by decide +kernel
theorem zd256_8 : decode zxm256.2.1 8 = .ok (.if_icmp .eq 43, 3) := by decide +kernel
theorem zd256_11 : decode zxm256.2.1 11 = .ok (.iload_n 2, 1) := by decide +kernel
theorem zd256_12 : decode zxm256.2.1 12 = .ok (.istore_n 3, 1) := by decide +kernel
theorem zd256_13 : decode zxm256.2.1 13 = .ok (.iconst 0, 1) := by decide +kernel
theorem zd256_14 : decode zxm256.2.1 14 = .ok (.istore 4, 2) := by decide +kernel
theorem zd256_16 : decode zxm256.2.1 16 = .ok (.iload 4, 2) := by decide +kernel
theorem zd256_18 : decode zxm256.2.1 18 = .ok (.bipush 24, 2) := by decide +kernel
theorem zd256_20 : decode zxm256.2.1 20 = .ok (.if_icmp .ge 28, 3) := by decide +kernel
theorem zd256_23 : decode zxm256.2.1 23 = .ok (.iload_n 3, 1) := by decide +kernel
theorem zd256_24 : decode zxm256.2.1 24 = .ok (.iload 4, 2) := by decide +kernel
theorem zd256_26 : decode zxm256.2.1 26 = .ok (.invokestatic 138, 3) := by decide +kernel
theorem zd256_29 : decode zxm256.2.1 29 = .ok (.ifCond .eq 13, 3) := by decide +kernel
theorem zd256_32 : decode zxm256.2.1 32 = .ok (.iload_n 2, 1) := by decide +kernel
theorem zd256_33 : decode zxm256.2.1 33 = .ok (.aload_n 0, 1) := by decide +kernel
theorem zd256_34 : decode zxm256.2.1 34 = .ok (.getfield 62, 3) := by decide +kernel
theorem zd256_37 : decode zxm256.2.1 37 = .ok (.iload 4, 2) := by decide +kernel
theorem zd256_39 : decode zxm256.2.1 39 = .ok (.iaload, 1) := by decide +kernel
theorem zd256_40 : decode zxm256.2.1 40 = .ok (.ior, 1) := by decide +kernel
theorem zd256_41 : decode zxm256.2.1 41 = .ok (.istore_n 2, 1) := by decide +kernel
theorem zd256_42 : decode zxm256.2.1 42 = .ok (.iinc 4 1, 3) := by decide +kernel
theorem zd256_45 : decode zxm256.2.1 45 = .ok (.goto (-29), 3) := by decide +kernel
theorem zd256_48 : decode zxm256.2.1 48 = .ok (.goto (-42), 3) := by decide +kernel
theorem zd256_51 : decode zxm256.2.1 51 = .ok (.iload_n 2, 1) := by decide +kernel
theorem zd256_52 : decode zxm256.2.1 52 = .ok (.ireturn, 1) := by decide +kernel
theorem zt_M_figureOf {x1 : Int} {g0 : (Int → Int)} {o : Int} (h : zf_M_figureOf x1 g0 = some o) : zv_Fn z_TB z_cl z_KX zy_M_figureOf zxm256 (1, 60) [.inr 0, .inl x1] [] [g0] (some o) [] [g0] := zv_meth (K := (z_KF13, z_KC13, z_KL13, z_KT13, [], [], [], none)) (FT := z_FT) (MT := z_MT) (n := 2) zxp256 (z_ks13 _ (fun _ h => List.mem_cons_of_mem _ h) _ _ _ _ (fun j r h _ => by cases h)) (fun _ _ => zs_KX_p) zyw_M_figureOf (fun va F G h => by obtain ⟨rfl, _⟩ := h; rfl) (fun va F G h => by obtain ⟨rfl, _⟩ := h; rfl) rfl fun good va F G hB hret hvret hP => by
  obtain ⟨rfl, rfl, rfl⟩ := hP
  have l1 : ∀ (n : Nat) (x2 : Int) (x3 : Int) (x4 : Int) (q : Int), zf_M_figureOf_l1 x3 g0 n x2 x4 = some q → (good 48 [.inr 0, .inr 1000, .inl q, .inl x3, .inr 1000] [] [] [g0]) → good 16 [.inr 0, .inr 1000, .inl x2, .inl x3, .inl x4] [] [] [g0] := by
    intro n
    induction n with
    | zero => intro x2 x3 x4 q h; exact absurd (show none = some q from h) (fun h => by cases h)
    | succ n ih =>
      intro x2 x3 x4 q h hK
      replace h : zf_M_figureOf_l1_b x3 g0 (zf_M_figureOf_l1 x3 g0 n) x2 x4 = some q := h
      unfold zf_M_figureOf_l1_b at h
      refine zv_ild hB zd256_16 rfl rfl ?_
      refine zv_con hB zd256_18 rfl ?_
      refine zv_cge hB zd256_20 rfl (fun hc2 => ?_) (fun hc2 => ?_)
      · rw [if_neg (Int.not_lt.mpr hc2)] at h
        have hq := Option.some.inj h
        subst hq
        refine zv_wk hB (L' := [.inr 0, .inr 1000, .inl x2, .inl x3, .inr 1000]) (F' := []) ⟨fun _ => rfl, fun (h : zv_is (.inr 1000)) => (Nat.lt_irrefl 1000 h).elim, fun _ => rfl, fun _ => rfl, fun (h : zv_is (.inr 1000)) => (Nat.lt_irrefl 1000 h).elim, trivial⟩ trivial ?_
        exact hK
      · rw [if_pos hc2] at h
        refine zv_ild hB zd256_23 rfl rfl ?_
        refine zv_ild hB zd256_24 rfl rfl ?_
        obtain ⟨r3, hr3, h⟩ := zi_bind h
        refine zv_cs hB (zv_emq (va2 := [.inl x3, .inl x4]) (F := []) (F' := []) (G := [g0]) (G' := [g0]) (ρ := []) (φ := []) (ψ := []) [] [none] zyw_M_has zyw_M_figureOf zye_M_figureOf (by decide +kernel) (zt_M_has hr3) trivial trivial rfl rfl rfl rfl rfl rfl rfl) zd256_26 zxt204 rfl (by decide) (by decide) rfl ?_
        refine zv_zeq hB zd256_29 rfl (fun hc4 => ?_) (fun hc4 => ?_)
        · rw [if_pos hc4] at h
          refine zv_iincw hB zd256_42 rfl rfl ?_
          refine zv_goto hB zd256_45 rfl ?_
          exact ih _ _ _ q h hK
        · rw [if_neg hc4] at h
          refine zv_ild hB zd256_32 rfl rfl ?_
          refine zv_ald hB zd256_33 rfl rfl rfl ?_
          refine zv_getr hB zd256_34 rfl ?_
          refine zv_ild hB zd256_37 rfl rfl ?_
          obtain ⟨c5, h⟩ := zi_if h
          refine zv_iald hB zd256_39 rfl rfl (zi_ix_ok c5).1 (zi_ix_ok c5).2 (fun _ _ => ?_)
          refine zv_orw hB zd256_40 ?_
          refine zv_ist hB zd256_41 rfl rfl rfl ?_
          refine zv_iincw hB zd256_42 rfl rfl ?_
          refine zv_goto hB zd256_45 rfl ?_
          exact ih _ _ _ q h hK
  have l0 : ∀ (n : Nat) (x2 : Int) (x3 : Int) (q : Int), zf_M_figureOf_l0 g0 n x2 x3 = some q → (good 51 [.inr 1000, .inr 1000, .inl q, .inr 1000, .inr 1000] [] [] [g0]) → good 6 [.inr 0, .inr 1000, .inl x2, .inl x3, .inr 1000] [] [] [g0] := by
    intro n
    induction n with
    | zero => intro x2 x3 q h; exact absurd (show none = some q from h) (fun h => by cases h)
    | succ n ih =>
      intro x2 x3 q h hK
      replace h : zf_M_figureOf_l0_b g0 (zf_M_figureOf_l0 g0 n) x2 x3 = some q := h
      unfold zf_M_figureOf_l0_b at h
      refine zv_ild hB zd256_6 rfl rfl ?_
      refine zv_ild hB zd256_7 rfl rfl ?_
      refine zv_ceq hB zd256_8 rfl (fun hc1 => ?_) (fun hc1 => ?_)
      · rw [if_pos hc1] at h
        have hq := Option.some.inj h
        subst hq
        refine zv_wk hB (L' := [.inr 1000, .inr 1000, .inl x2, .inr 1000, .inr 1000]) (F' := []) ⟨fun (h : zv_is (.inr 1000)) => (Nat.lt_irrefl 1000 h).elim, fun (h : zv_is (.inr 1000)) => (Nat.lt_irrefl 1000 h).elim, fun _ => rfl, fun (h : zv_is (.inr 1000)) => (Nat.lt_irrefl 1000 h).elim, fun (h : zv_is (.inr 1000)) => (Nat.lt_irrefl 1000 h).elim, trivial⟩ trivial ?_
        exact hK
      · rw [if_neg hc1] at h
        refine zv_ild hB zd256_11 rfl rfl ?_
        refine zv_ist hB zd256_12 rfl rfl rfl ?_
        refine zv_con hB zd256_13 rfl ?_
        refine zv_ist hB zd256_14 rfl rfl rfl ?_
        obtain ⟨q6, hq6, h⟩ := zi_bind h
        refine l1 _ _ _ _ q6 hq6 ?_
        show good 48 [.inr 0, .inr 1000, .inl q6, .inl x2, .inr 1000] [] [] [g0]
        refine zv_goto hB zd256_48 rfl ?_
        exact ih _ _ q h hK
  unfold zf_M_figureOf at h
  refine zv_con hB zd256_0 rfl ?_
  refine zv_ild hB zd256_1 rfl rfl ?_
  refine zv_shlw hB zd256_2 ?_
  refine zv_ist hB zd256_3 rfl rfl rfl ?_
  refine zv_con hB zd256_4 rfl ?_
  refine zv_ist hB zd256_5 rfl rfl rfl ?_
  obtain ⟨q7, hq7, h⟩ := zi_bind h
  refine zv_wk hB (L' := [.inr 0, .inr 1000, .inl (zi_shl 1 x1), .inl 0, .inr 1000]) (F' := []) ⟨fun _ => rfl, fun (h : zv_is (.inr 1000)) => (Nat.lt_irrefl 1000 h).elim, fun _ => rfl, fun _ => rfl, fun (h : zv_is (.inr 1000)) => (Nat.lt_irrefl 1000 h).elim, trivial⟩ trivial ?_
  refine l0 _ _ _ q7 hq7 ?_
  show good 51 [.inr 1000, .inr 1000, .inl q7, .inr 1000, .inr 1000] [] [] [g0]
  refine zv_ild hB zd256_51 rfl rfl ?_
  have hw := Option.some.inj h
  subst hw
  exact hret _ _ _ _ _ zd256_52 (by trivial) ⟨rfl, rfl, rfl⟩
/-! M_bits (I)I -/
-- names: 
-- fields: ; arrays: ; out: [('ret', None)]
abbrev zy_M_bits : zNL := (0, [], [], [], [])
theorem zyw_M_bits : zv_wf zy_M_bits = true := by decide +kernel
theorem zye_M_bits : zv_ek2 zy_M_bits = true := by decide +kernel
def zf_M_bits_l0_b (x0 : Int) (rec : Int → Int → Option (Int)) (x1 : Int) (x2 : Int) : Option (Int) := if x2 < 24 then (rec (zi_w (x1 + (zi_and (zi_shr x0 x2) 1))) (zi_w (x2 + 1))) else (some x1)
def zf_M_bits_l0 (x0 : Int) : Nat → Int → Int → Option (Int)
  | 0, _, _ => none
  | n + 1, x1, x2 => zf_M_bits_l0_b x0 (zf_M_bits_l0 x0 n) x1 x2
def zf_M_bits (x0 : Int) : Option (Int) := (zf_M_bits_l0 x0 zi_fu 0 0).bind fun q2 => (some q2)
theorem zd257_0 : decode zxm257.2.1 0 = .ok (.iconst 0, 1) := by decide +kernel
theorem zd257_1 : decode zxm257.2.1 1 = .ok (.istore_n 1, 1) := by decide +kernel
theorem zd257_2 : decode zxm257.2.1 2 = .ok (.iconst 0, 1) := by decide +kernel
theorem zd257_3 : decode zxm257.2.1 3 = .ok (.istore_n 2, 1) := by decide +kernel
theorem zd257_4 : decode zxm257.2.1 4 = .ok (.iload_n 2, 1) := by decide +kernel
theorem zd257_5 : decode zxm257.2.1 5 = .ok (.bipush 24, 2) := by decide +kernel
theorem zd257_7 : decode zxm257.2.1 7 = .ok (.if_icmp .ge 17, 3) := by decide +kernel
theorem zd257_10 : decode zxm257.2.1 10 = .ok (.iload_n 1, 1) := by decide +kernel
theorem zd257_11 : decode zxm257.2.1 11 = .ok (.iload_n 0, 1) := by decide +kernel
theorem zd257_12 : decode zxm257.2.1 12 = .ok (.iload_n 2, 1) := by decide +kernel
theorem zd257_13 : decode zxm257.2.1 13 = .ok (.ishr, 1) := by decide +kernel
theorem zd257_14 : decode zxm257.2.1 14 = .ok (.iconst 1, 1) := by decide +kernel
theorem zd257_15 : decode zxm257.2.1 15 = .ok (.iand, 1) := by decide +kernel
theorem zd257_16 : decode zxm257.2.1 16 = .ok (.iadd, 1) := by decide +kernel
theorem zd257_17 : decode zxm257.2.1 17 = .ok (.istore_n 1, 1) := by decide +kernel
theorem zd257_18 : decode zxm257.2.1 18 = .ok (.iinc 2 1, 3) := by decide +kernel
theorem zd257_21 : decode zxm257.2.1 21 = .ok (.goto (-17), 3) := by decide +kernel
theorem zd257_24 : decode zxm257.2.1 24 = .ok (.iload_n 1, 1) := by decide +kernel
theorem zd257_25 : decode zxm257.2.1 25 = .ok (.ireturn, 1) := by decide +kernel
theorem zt_M_bits {x0 : Int} {o : Int} (h : zf_M_bits x0 = some o) : zv_Fn z_TB z_cl z_KX zy_M_bits zxm257 (0, 0) [.inl x0] [] [] (some o) [] [] := zv_meth (K := (z_KF13, z_KC13, z_KL13, z_KT13, [], [], [], none)) (FT := z_FT) (MT := z_MT) (n := 1) zxp257 (z_ks13 _ (fun _ h => List.mem_cons_of_mem _ h) _ _ _ _ (fun j r h _ => by cases h)) (fun _ _ => zs_KX_p) zyw_M_bits (fun va F G h => by obtain ⟨rfl, _⟩ := h; rfl) (fun va F G h => by obtain ⟨rfl, _⟩ := h; rfl) rfl fun good va F G hB hret hvret hP => by
  obtain ⟨rfl, rfl, rfl⟩ := hP
  have l0 : ∀ (n : Nat) (x0 : Int) (x1 : Int) (x2 : Int) (q : Int), zf_M_bits_l0 x0 n x1 x2 = some q → (good 24 [.inr 1000, .inl q, .inr 1000] [] [] []) → good 4 [.inl x0, .inl x1, .inl x2] [] [] [] := by
    intro n
    induction n with
    | zero => intro x0 x1 x2 q h; exact absurd (show none = some q from h) (fun h => by cases h)
    | succ n ih =>
      intro x0 x1 x2 q h hK
      replace h : zf_M_bits_l0_b x0 (zf_M_bits_l0 x0 n) x1 x2 = some q := h
      unfold zf_M_bits_l0_b at h
      refine zv_ild hB zd257_4 rfl rfl ?_
      refine zv_con hB zd257_5 rfl ?_
      refine zv_cge hB zd257_7 rfl (fun hc1 => ?_) (fun hc1 => ?_)
      · rw [if_neg (Int.not_lt.mpr hc1)] at h
        have hq := Option.some.inj h
        subst hq
        refine zv_wk hB (L' := [.inr 1000, .inl x1, .inr 1000]) (F' := []) ⟨fun (h : zv_is (.inr 1000)) => (Nat.lt_irrefl 1000 h).elim, fun _ => rfl, fun (h : zv_is (.inr 1000)) => (Nat.lt_irrefl 1000 h).elim, trivial⟩ trivial ?_
        exact hK
      · rw [if_pos hc1] at h
        refine zv_ild hB zd257_10 rfl rfl ?_
        refine zv_ild hB zd257_11 rfl rfl ?_
        refine zv_ild hB zd257_12 rfl rfl ?_
        refine zv_shrw hB zd257_13 ?_
        refine zv_con hB zd257_14 rfl ?_
        refine zv_andw hB zd257_15 ?_
        refine zv_addw hB zd257_16 ?_
        refine zv_ist hB zd257_17 rfl rfl rfl ?_
        refine zv_iincw hB zd257_18 rfl rfl ?_
        refine zv_goto hB zd257_21 rfl ?_
        exact ih _ _ _ q h hK
  unfold zf_M_bits at h
  refine zv_con hB zd257_0 rfl ?_
  refine zv_ist hB zd257_1 rfl rfl rfl ?_
  refine zv_con hB zd257_2 rfl ?_
  refine zv_ist hB zd257_3 rfl rfl rfl ?_
  obtain ⟨q2, hq2, h⟩ := zi_bind h
  refine l0 _ _ _ _ q2 hq2 ?_
  show good 24 [.inr 1000, .inl q2, .inr 1000] [] [] []
  refine zv_ild hB zd257_24 rfl rfl ?_
  have hw := Option.some.inj h
  subst hw
  exact hret _ _ _ _ _ zd257_25 (by trivial) ⟨rfl, rfl, rfl⟩
/-! M_max (II)I -/
-- names: 
-- fields: ; arrays: ; out: [('ret', None)]
abbrev zy_M_max : zNL := (0, [], [], [], [])
theorem zyw_M_max : zv_wf zy_M_max = true := by decide +kernel
theorem zye_M_max : zv_ek2 zy_M_max = true := by decide +kernel
def zf_M_max (x0 : Int) (x1 : Int) : Option (Int) := if x1 < x0 then (some x0) else (some x1)
theorem zd258_0 : decode zxm258.2.1 0 = .ok (.iload_n 0, 1) := by decide +kernel
theorem zd258_1 : decode zxm258.2.1 1 = .ok (.iload_n 1, 1) := by decide +kernel
theorem zd258_2 : decode zxm258.2.1 2 = .ok (.if_icmp .le 7, 3) := by decide +kernel
theorem zd258_5 : decode zxm258.2.1 5 = .ok (.iload_n 0, 1) := by decide +kernel
theorem zd258_6 : decode zxm258.2.1 6 = .ok (.goto 4, 3) := by decide +kernel
theorem zd258_9 : decode zxm258.2.1 9 = .ok (.iload_n 1, 1) := by decide +kernel
theorem zd258_10 : decode zxm258.2.1 10 = .ok (.ireturn, 1) := by decide +kernel
theorem zt_M_max {x0 : Int} {x1 : Int} {o : Int} (h : zf_M_max x0 x1 = some o) : zv_Fn z_TB z_cl z_KX zy_M_max zxm258 (0, 0) [.inl x0, .inl x1] [] [] (some o) [] [] := zv_meth (K := (z_KF13, z_KC13, z_KL13, z_KT13, [], [], [], none)) (FT := z_FT) (MT := z_MT) (n := 2) zxp258 (z_ks13 _ (fun _ h => List.mem_cons_of_mem _ h) _ _ _ _ (fun j r h _ => by cases h)) (fun _ _ => zs_KX_p) zyw_M_max (fun va F G h => by obtain ⟨rfl, _⟩ := h; rfl) (fun va F G h => by obtain ⟨rfl, _⟩ := h; rfl) rfl fun good va F G hB hret hvret hP => by
  obtain ⟨rfl, rfl, rfl⟩ := hP
  unfold zf_M_max at h
  refine zv_ild hB zd258_0 rfl rfl ?_
  refine zv_ild hB zd258_1 rfl rfl ?_
  refine zv_cle hB zd258_2 rfl (fun hc1 => ?_) (fun hc1 => ?_)
  · rw [if_neg (Int.not_lt.mpr hc1)] at h
    refine zv_ild hB zd258_9 rfl rfl ?_
    have hw := Option.some.inj h
    subst hw
    exact hret _ _ _ _ _ zd258_10 (by trivial) ⟨rfl, rfl, rfl⟩
  · rw [if_pos hc1] at h
    refine zv_ild hB zd258_5 rfl rfl ?_
    refine zv_goto hB zd258_6 rfl ?_
    have hw := Option.some.inj h
    subst hw
    exact hret _ _ _ _ _ zd258_10 (by trivial) ⟨rfl, rfl, rfl⟩
/-! M_laysFigures ()V -/
-- names: 0 StarTalesModel('arg', 0), 1 (0, 24)(0, 12, 28)
-- fields: f0 = 0.figures_, f1 = 0.largest_, f2 = 0.seen0_; arrays: g0 = 1; out: [('f', 0), ('f', 1)]
abbrev zy_M_laysFigures : zNL := (2, [(0, 12)], [(0, 12, 29, 0), (0, 12, 30, 1), (0, 12, 27, 2)], [(0, 12, 28, 1)], [(1, 0, 24, 0)])
theorem zyw_M_laysFigures : zv_wf zy_M_laysFigures = true := by decide +kernel
theorem zye_M_laysFigures : zv_ek2 zy_M_laysFigures = true := by decide +kernel
def zf_M_laysFigures_l0_b (g0 : (Int → Int)) (rec : Int → Int → Int → Int → Option (Int × Int)) (x1 : Int) (x2 : Int) (f0 : Int) (f1 : Int) : Option (Int × Int) := if x2 < 24 then ((zf_M_has x1 x2).bind fun r2 => (if r2 = 0 then (rec x1 (zi_w (x2 + 1)) f0 f1) else ((zf_M_figureOf x2 g0).bind fun r4 => ((zf_M_bits r4).bind fun r5 => ((zf_M_max f1 r5).bind fun r6 => (rec (zi_and x1 (zi_xor r4 (-1))) (zi_w (x2 + 1)) (zi_w (f0 + 1)) r6)))))) else (some (f0, f1))
def zf_M_laysFigures_l0 (g0 : (Int → Int)) : Nat → Int → Int → Int → Int → Option (Int × Int)
  | 0, _, _, _, _ => none
  | n + 1, x1, x2, f0, f1 => zf_M_laysFigures_l0_b g0 (zf_M_laysFigures_l0 g0 n) x1 x2 f0 f1
def zf_M_laysFigures (f0 : Int) (f1 : Int) (f2 : Int) (g0 : (Int → Int)) : Option (Int × Int) := (zf_M_laysFigures_l0 g0 zi_fu f2 0 0 0).bind fun q7 => (some (q7.1, q7.2))
theorem zd255_0 : decode zxm255.2.1 0 = .ok (.aload_n 0, 1) := by decide +kernel
theorem zd255_1 : decode zxm255.2.1 1 = .ok (.iconst 0, 1) := by decide +kernel
theorem zd255_2 : decode zxm255.2.1 2 = .ok (.putfield 312, 3) := by decide +kernel
theorem zd255_5 : decode zxm255.2.1 5 = .ok (.aload_n 0, 1) := by decide +kernel
theorem zd255_6 : decode zxm255.2.1 6 = .ok (.iconst 0, 1) := by decide +kernel
theorem zd255_7 : decode zxm255.2.1 7 = .ok (.putfield 315, 3) := by decide +kernel
theorem zd255_10 : decode zxm255.2.1 10 = .ok (.aload_n 0, 1) := by decide +kernel
theorem zd255_11 : decode zxm255.2.1 11 = .ok (.getfield 303, 3) := by decide +kernel
theorem zd255_14 : decode zxm255.2.1 14 = .ok (.istore_n 1, 1) := by decide +kernel
theorem zd255_15 : decode zxm255.2.1 15 = .ok (.iconst 0, 1) := by decide +kernel
theorem zd255_16 : decode zxm255.2.1 16 = .ok (.istore_n 2, 1) := by decide +kernel
theorem zd255_17 : decode zxm255.2.1 17 = .ok (.iload_n 2, 1) := by decide +kernel
theorem zd255_18 : decode zxm255.2.1 18 = .ok (.bipush 24, 2) := by decide +kernel
theorem zd255_20 : decode zxm255.2.1 20 = .ok (.if_icmp .ge 57, 3) := by decide +kernel
theorem zd255_23 : decode zxm255.2.1 23 = .ok (.iload_n 1, 1) := by decide +kernel
theorem zd255_24 : decode zxm255.2.1 24 = .ok (.iload_n 2, 1) := by decide +kernel
theorem zd255_25 : decode zxm255.2.1 25 = .ok (.invokestatic 138, 3) := by decide +kernel
theorem zd255_28 : decode zxm255.2.1 28 = .ok (.ifCond .ne 6, 3) := by decide +kernel
theorem zd255_31 : decode zxm255.2.1 31 = .ok (.goto 40, 3) := by decide +kernel
theorem zd255_34 : decode zxm255.2.1 34 = .ok (.aload_n 0, 1) := by decide +kernel
theorem zd255_35 : decode zxm255.2.1 35 = .ok (.iload_n 2, 1) := by decide +kernel
theorem zd255_36 : decode zxm255.2.1 36 = .ok (.invokevirtual 318, 3) := by decide +kernel
theorem zd255_39 : decode zxm255.2.1 39 = .ok (.istore_n 3, 1) := by decide +kernel
theorem zd255_40 : decode zxm255.2.1 40 = .ok (.iload_n 1, 1) := by decide +kernel
theorem zd255_41 : decode zxm255.2.1 41 = .ok (.iload_n 3, 1) := by decide +kernel
theorem zd255_42 : decode zxm255.2.1 42 = .ok (.iconst (-1), 1) := by decide +kernel
theorem zd255_43 : decode zxm255.2.1 43 = .ok (.ixor, 1) := by decide +kernel
theorem zd255_44 : decode zxm255.2.1 44 = .ok (.iand, 1) := by decide +kernel
theorem zd255_45 : decode zxm255.2.1 45 = .ok (.istore_n 1, 1) := by decide +kernel
theorem zd255_46 : decode zxm255.2.1 46 = .ok (.aload_n 0, 1) := by decide +kernel
theorem zd255_47 : decode zxm255.2.1 47 = .ok (.aload_n 0, 1) := by decide +kernel
theorem zd255_48 : decode zxm255.2.1 48 = .ok (.getfield 312, 3) := by decide +kernel
theorem zd255_51 : decode zxm255.2.1 51 = .ok (.iconst 1, 1) := by decide +kernel
theorem zd255_52 : decode zxm255.2.1 52 = .ok (.iadd, 1) := by decide +kernel
theorem zd255_53 : decode zxm255.2.1 53 = .ok (.putfield 312, 3) := by decide +kernel
theorem zd255_56 : decode zxm255.2.1 56 = .ok (.aload_n 0, 1) := by decide +kernel
theorem zd255_57 : decode zxm255.2.1 57 = .ok (.aload_n 0, 1) := by decide +kernel
theorem zd255_58 : decode zxm255.2.1 58 = .ok (.getfield 315, 3) := by decide +kernel
theorem zd255_61 : decode zxm255.2.1 61 = .ok (.iload_n 3, 1) := by decide +kernel
theorem zd255_62 : decode zxm255.2.1 62 = .ok (.invokestatic 321, 3) := by decide +kernel
theorem zd255_65 : decode zxm255.2.1 65 = .ok (.invokestatic 324, 3) := by decide +kernel
theorem zd255_68 : decode zxm255.2.1 68 = .ok (.putfield 315, 3) := by decide +kernel
theorem zd255_71 : decode zxm255.2.1 71 = .ok (.iinc 2 1, 3) := by decide +kernel
theorem zd255_74 : decode zxm255.2.1 74 = .ok (.goto (-57), 3) := by decide +kernel
theorem zd255_77 : decode zxm255.2.1 77 = .ok (.return_, 1) := by decide +kernel
theorem zt_M_laysFigures {f0 : Int} {f1 : Int} {f2 : Int} {g0 : (Int → Int)} {o : Int × Int} (h : zf_M_laysFigures f0 f1 f2 g0 = some o) : zv_Fn z_TB z_cl z_KX zy_M_laysFigures zxm255 (2, 120) [.inr 0] [.inl f0, .inl f1, .inl f2] [g0] none [.inl o.1, .inl o.2, .inl f2] [g0] := zv_meth (K := (z_KF13, z_KC13, z_KL13, z_KT13, [], [], [], none)) (FT := z_FT) (MT := z_MT) (n := 1) zxp255 (z_ks13 _ (fun _ h => List.mem_cons_of_mem _ h) _ _ _ _ (fun j r h _ => by cases h)) (fun _ _ => zs_KX_p) zyw_M_laysFigures (fun va F G h => by obtain ⟨rfl, _⟩ := h; rfl) (fun va F G h => by obtain ⟨rfl, _⟩ := h; rfl) rfl fun good va F G hB hret hvret hP => by
  obtain ⟨rfl, rfl, rfl⟩ := hP
  have l0 : ∀ (n : Nat) (x1 : Int) (x2 : Int) (f0 : Int) (f1 : Int) (q : Int × Int), zf_M_laysFigures_l0 g0 n x1 x2 f0 f1 = some q → (good 77 [.inr 1000, .inr 1000, .inr 1000, .inr 1000] [] [.inl q.1, .inl q.2, .inl f2] [g0]) → good 17 [.inr 0, .inl x1, .inl x2, .inr 1000] [] [.inl f0, .inl f1, .inl f2] [g0] := by
    intro n
    induction n with
    | zero => intro x1 x2 f0 f1 q h; exact absurd (show none = some q from h) (fun h => by cases h)
    | succ n ih =>
      intro x1 x2 f0 f1 q h hK
      replace h : zf_M_laysFigures_l0_b g0 (zf_M_laysFigures_l0 g0 n) x1 x2 f0 f1 = some q := h
      unfold zf_M_laysFigures_l0_b at h
      refine zv_ild hB zd255_17 rfl rfl ?_
      refine zv_con hB zd255_18 rfl ?_
      refine zv_cge hB zd255_20 rfl (fun hc1 => ?_) (fun hc1 => ?_)
      · rw [if_neg (Int.not_lt.mpr hc1)] at h
        have hq := Option.some.inj h
        subst hq
        refine zv_wk hB (L' := [.inr 1000, .inr 1000, .inr 1000, .inr 1000]) (F' := [.inl f0, .inl f1, .inl f2]) ⟨fun (h : zv_is (.inr 1000)) => (Nat.lt_irrefl 1000 h).elim, fun (h : zv_is (.inr 1000)) => (Nat.lt_irrefl 1000 h).elim, fun (h : zv_is (.inr 1000)) => (Nat.lt_irrefl 1000 h).elim, fun (h : zv_is (.inr 1000)) => (Nat.lt_irrefl 1000 h).elim, trivial⟩ ⟨fun _ => rfl, fun _ => rfl, fun _ => rfl, trivial⟩ ?_
        exact hK
      · rw [if_pos hc1] at h
        refine zv_ild hB zd255_23 rfl rfl ?_
        refine zv_ild hB zd255_24 rfl rfl ?_
        obtain ⟨r2, hr2, h⟩ := zi_bind h
        refine zv_cs hB (zv_emq (va2 := [.inl x1, .inl x2]) (F := [.inl f0, .inl f1, .inl f2]) (F' := [.inl f0, .inl f1, .inl f2]) (G := [g0]) (G' := [g0]) (ρ := []) (φ := []) (ψ := []) [none, none, none] [none] zyw_M_has zyw_M_laysFigures zye_M_laysFigures (by decide +kernel) (zt_M_has hr2) trivial trivial rfl rfl rfl rfl rfl rfl rfl) zd255_25 zxt204 rfl (by decide) (by decide) rfl ?_
        refine zv_zne hB zd255_28 rfl (fun hc3 => ?_) (fun hc3 => ?_)
        · rw [if_neg hc3] at h
          refine zv_ald hB zd255_34 rfl rfl rfl ?_
          refine zv_ild hB zd255_35 rfl rfl ?_
          obtain ⟨r4, hr4, h⟩ := zi_bind h
          refine zv_cv hB (zv_emq (va2 := [.inr 0, .inl x2]) (F := [.inl f0, .inl f1, .inl f2]) (F' := [.inl f0, .inl f1, .inl f2]) (G := [g0]) (G' := [g0]) (ρ := [0, 1]) (φ := []) (ψ := [0]) [none, none, none] [some 0] zyw_M_figureOf zyw_M_laysFigures zye_M_laysFigures (by decide +kernel) (zt_M_figureOf hr4) trivial ⟨rfl, trivial⟩ rfl rfl rfl rfl rfl rfl rfl) zd255_36 zxt256 rfl (by decide) (by decide) rfl ?_
          refine zv_ist hB zd255_39 rfl rfl rfl ?_
          refine zv_ild hB zd255_40 rfl rfl ?_
          refine zv_ild hB zd255_41 rfl rfl ?_
          refine zv_con hB zd255_42 rfl ?_
          refine zv_xorw hB zd255_43 ?_
          refine zv_andw hB zd255_44 ?_
          refine zv_ist hB zd255_45 rfl rfl rfl ?_
          refine zv_ald hB zd255_46 rfl rfl rfl ?_
          refine zv_ald hB zd255_47 rfl rfl rfl ?_
          refine zv_getf hB zd255_48 rfl rfl (fun _ _ => ?_)
          refine zv_con hB zd255_51 rfl ?_
          refine zv_addw hB zd255_52 ?_
          refine zv_putf hB zd255_53 rfl rfl (fun h => by cases h) rfl ?_
          refine zv_ald hB zd255_56 rfl rfl rfl ?_
          refine zv_ald hB zd255_57 rfl rfl rfl ?_
          refine zv_getf hB zd255_58 rfl rfl (fun _ _ => ?_)
          refine zv_ild hB zd255_61 rfl rfl ?_
          obtain ⟨r5, hr5, h⟩ := zi_bind h
          refine zv_cs hB (zv_emq (va2 := [.inl r4]) (F := [.inl (zi_w (f0 + 1)), .inl f1, .inl f2]) (F' := [.inl (zi_w (f0 + 1)), .inl f1, .inl f2]) (G := [g0]) (G' := [g0]) (ρ := []) (φ := []) (ψ := []) [none, none, none] [none] zyw_M_bits zyw_M_laysFigures zye_M_laysFigures (by decide +kernel) (zt_M_bits hr5) trivial trivial rfl rfl rfl rfl rfl rfl rfl) zd255_62 zxt257 rfl (by decide) (by decide) rfl ?_
          obtain ⟨r6, hr6, h⟩ := zi_bind h
          refine zv_cs hB (zv_emq (va2 := [.inl f1, .inl r5]) (F := [.inl (zi_w (f0 + 1)), .inl f1, .inl f2]) (F' := [.inl (zi_w (f0 + 1)), .inl f1, .inl f2]) (G := [g0]) (G' := [g0]) (ρ := []) (φ := []) (ψ := []) [none, none, none] [none] zyw_M_max zyw_M_laysFigures zye_M_laysFigures (by decide +kernel) (zt_M_max hr6) trivial trivial rfl rfl rfl rfl rfl rfl rfl) zd255_65 zxt258 rfl (by decide) (by decide) rfl ?_
          refine zv_putf hB zd255_68 rfl rfl (fun h => by cases h) rfl ?_
          refine zv_iincw hB zd255_71 rfl rfl ?_
          refine zv_goto hB zd255_74 rfl ?_
          refine zv_wk hB (L' := [.inr 0, .inl (zi_and x1 (zi_xor r4 (-1))), .inl (zi_w (x2 + 1)), .inr 1000]) (F' := [.inl (zi_w (f0 + 1)), .inl r6, .inl f2]) ⟨fun _ => rfl, fun _ => rfl, fun _ => rfl, fun (h : zv_is (.inr 1000)) => (Nat.lt_irrefl 1000 h).elim, trivial⟩ ⟨fun _ => rfl, fun _ => rfl, fun _ => rfl, trivial⟩ ?_
          exact ih _ _ _ _ q h hK
        · rw [if_pos hc3] at h
          refine zv_goto hB zd255_31 rfl ?_
          refine zv_iincw hB zd255_71 rfl rfl ?_
          refine zv_goto hB zd255_74 rfl ?_
          exact ih _ _ _ _ q h hK
  unfold zf_M_laysFigures at h
  refine zv_ald hB zd255_0 rfl rfl rfl ?_
  refine zv_con hB zd255_1 rfl ?_
  refine zv_putf hB zd255_2 rfl rfl (fun h => by cases h) rfl ?_
  refine zv_ald hB zd255_5 rfl rfl rfl ?_
  refine zv_con hB zd255_6 rfl ?_
  refine zv_putf hB zd255_7 rfl rfl (fun h => by cases h) rfl ?_
  refine zv_ald hB zd255_10 rfl rfl rfl ?_
  refine zv_getf hB zd255_11 rfl rfl (fun _ _ => ?_)
  refine zv_ist hB zd255_14 rfl rfl rfl ?_
  refine zv_con hB zd255_15 rfl ?_
  refine zv_ist hB zd255_16 rfl rfl rfl ?_
  obtain ⟨q7, hq7, h⟩ := zi_bind h
  refine l0 _ _ _ _ _ q7 hq7 ?_
  show good 77 [.inr 1000, .inr 1000, .inr 1000, .inr 1000] [] [.inl q7.1, .inl q7.2, .inl f2] [g0]
  have hw := Option.some.inj h
  subst hw
  exact hvret _ _ _ _ zd255_77 trivial ⟨rfl, rfl, rfl⟩
end
