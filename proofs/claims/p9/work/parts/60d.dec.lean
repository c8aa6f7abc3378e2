/-! Methods as functions, and that they do what these do. -/
/-! LawReader_readSum (I)V -/
-- names: 0 LawReader('arg', 0), 1 (0, 220)(0, 5, 0), 2 Law(0, 5, 4), 3 (0, 200)(2, 4, 0), 4 (0, 200)(2, 4, 1)
-- fields: f0 = 0.fault_, f1 = 0.at_, f2 = 0.length_, f3 = 0.law_, f4 = 2.steps_; arrays: g0 = 1, g1 = 3, g2 = 4; out: [('f', 0), ('f', 1), ('f', 4), ('g', 1), ('g', 2)]
abbrev zy_LawReader_readSum : zNL := (5, [(0, 5), (2, 4)], [(0, 5, 3, 0), (0, 5, 2, 1), (0, 5, 1, 2), (0, 5, 4, 3), (2, 4, 2, 4)], [(0, 5, 0, 1), (2, 4, 0, 3), (2, 4, 1, 4)], [(1, 0, 220, 0), (3, 0, 200, 1), (4, 0, 200, 2)])
theorem zyw_LawReader_readSum : zv_wf zy_LawReader_readSum = true := by decide +kernel
theorem zye_LawReader_readSum : zv_ek2 zy_LawReader_readSum = true := by decide +kernel
def zm_LawReader_readSum_l0_b (rc : Nat → Int → Int → Int → Int → Int → (Int → Int) → (Int → Int) → (Int → Int) → Option (Int × Int × Int × (Int → Int) × (Int → Int))) (x1 : Int) (f2 : Int) (g0 : (Int → Int)) (rec : Int → Int → Int → (Int → Int) → (Int → Int) → Option (Int × Int × Int × (Int → Int) × (Int → Int))) (f0 : Int) (f1 : Int) (f4 : Int) (g1 : (Int → Int)) (g2 : (Int → Int)) : Option (Int × Int × Int × (Int → Int) × (Int → Int)) := if f0 = 0 then (if f1 < f2 then (cond (zi_ix f1 220) (if (g0 f1) = 43 then ((rc 1 x1 f0 (zi_w (f1 + 1)) f2 f4 g0 g1 g2).bind fun r7 => ((zf_Law_addStep 5 0 r7.2.2.1 r7.2.2.2.1 r7.2.2.2.2).bind fun r8 => (rec r7.1 r7.2.1 r8.2.1 r8.2.2.1 r8.2.2.2))) else (if (g0 f1) = 45 then ((rc 1 x1 f0 (zi_w (f1 + 1)) f2 f4 g0 g1 g2).bind fun r11 => ((zf_Law_addStep 6 0 r11.2.2.1 r11.2.2.2.1 r11.2.2.2.2).bind fun r12 => (rec r11.1 r11.2.1 r12.2.1 r12.2.2.1 r12.2.2.2))) else (some (f0, f1, f4, g1, g2)))) none) else (some (f0, f1, f4, g1, g2))) else (some (f0, f1, f4, g1, g2))
def zm_LawReader_readSum_l0 (rc : Nat → Int → Int → Int → Int → Int → (Int → Int) → (Int → Int) → (Int → Int) → Option (Int × Int × Int × (Int → Int) × (Int → Int))) (x1 : Int) (f2 : Int) (g0 : (Int → Int)) : Nat → Int → Int → Int → (Int → Int) → (Int → Int) → Option (Int × Int × Int × (Int → Int) × (Int → Int))
  | 0, _, _, _, _, _ => none
  | n + 1, f0, f1, f4, g1, g2 => zm_LawReader_readSum_l0_b rc x1 f2 g0 (zm_LawReader_readSum_l0 rc x1 f2 g0 n) f0 f1 f4 g1 g2
def zm_LawReader_readSum (rc : Nat → Int → Int → Int → Int → Int → (Int → Int) → (Int → Int) → (Int → Int) → Option (Int × Int × Int × (Int → Int) × (Int → Int))) (x1 : Int) (f0 : Int) (f1 : Int) (f2 : Int) (f4 : Int) (g0 : (Int → Int)) (g1 : (Int → Int)) (g2 : (Int → Int)) : Option (Int × Int × Int × (Int → Int) × (Int → Int)) := (rc 1 x1 f0 f1 f2 f4 g0 g1 g2).bind fun r1 => ((zm_LawReader_readSum_l0 rc x1 f2 g0 zi_fu r1.1 r1.2.1 r1.2.2.1 r1.2.2.2.1 r1.2.2.2.2).bind fun q13 => (some (q13.1, q13.2.1, q13.2.2.1, q13.2.2.2.1, q13.2.2.2.2)))
theorem zd43_0 : decode zxm43.2.1 0 = .ok (.aload_n 0, 1) := by decide +kernel
theorem zd43_1 : decode zxm43.2.1 1 = .ok (.iload_n 1, 1) := by decide +kernel
theorem zd43_2 : decode zxm43.2.1 2 = .ok (.invokevirtual 88, 3) := by decide +kernel
theorem zd43_5 : decode zxm43.2.1 5 = .ok (.aload_n 0, 1) := by decide +kernel
theorem zd43_6 : decode zxm43.2.1 6 = .ok (.getfield 18, 3) := by decide +kernel
theorem zd43_9 : decode zxm43.2.1 9 = .ok (.ifCond .ne 91, 3) := by decide +kernel
theorem zd43_12 : decode zxm43.2.1 12 = .ok (.aload_n 0, 1) := by decide +kernel
theorem zd43_13 : decode zxm43.2.1 13 = .ok (.getfield 15, 3) := by decide +kernel
theorem zd43_16 : decode zxm43.2.1 16 = .ok (.aload_n 0, 1) := by decide +kernel
theorem zd43_17 : decode zxm43.2.1 17 = .ok (.getfield 9, 3) := by decide +kernel
theorem zd43_20 : decode zxm43.2.1 20 = .ok (.if_icmp .ge 80, 3) := by decide +kernel
theorem zd43_23 : decode zxm43.2.1 23 = .ok (.aload_n 0, 1) := by decide +kernel
theorem zd43_24 : decode zxm43.2.1 24 = .ok (.getfield 21, 3) := by decide +kernel
theorem zd43_27 : decode zxm43.2.1 27 = .ok (.aload_n 0, 1) := by decide +kernel
theorem zd43_28 : decode zxm43.2.1 28 = .ok (.getfield 15, 3) := by decide +kernel
theorem zd43_31 : decode zxm43.2.1 31 = .ok (.iaload, 1) := by decide +kernel
theorem zd43_32 : decode zxm43.2.1 32 = .ok (.bipush 43, 2) := by decide +kernel
theorem zd43_34 : decode zxm43.2.1 34 = .ok (.if_icmp .eq 17, 3) := by decide +kernel
theorem zd43_37 : decode zxm43.2.1 37 = .ok (.aload_n 0, 1) := by decide +kernel
theorem zd43_38 : decode zxm43.2.1 38 = .ok (.getfield 21, 3) := by decide +kernel
theorem zd43_41 : decode zxm43.2.1 41 = .ok (.aload_n 0, 1) := by decide +kernel
theorem zd43_42 : decode zxm43.2.1 42 = .ok (.getfield 15, 3) := by decide +kernel
theorem zd43_45 : decode zxm43.2.1 45 = .ok (.iaload, 1) := by decide +kernel
theorem zd43_46 : decode zxm43.2.1 46 = .ok (.bipush 45, 2) := by decide +kernel
theorem zd43_48 : decode zxm43.2.1 48 = .ok (.if_icmp .ne 52, 3) := by decide +kernel
theorem zd43_51 : decode zxm43.2.1 51 = .ok (.aload_n 0, 1) := by decide +kernel
theorem zd43_52 : decode zxm43.2.1 52 = .ok (.getfield 21, 3) := by decide +kernel
theorem zd43_55 : decode zxm43.2.1 55 = .ok (.aload_n 0, 1) := by decide +kernel
theorem zd43_56 : decode zxm43.2.1 56 = .ok (.getfield 15, 3) := by decide +kernel
theorem zd43_59 : decode zxm43.2.1 59 = .ok (.iaload, 1) := by decide +kernel
theorem zd43_60 : decode zxm43.2.1 60 = .ok (.bipush 43, 2) := by decide +kernel
theorem zd43_62 : decode zxm43.2.1 62 = .ok (.if_icmp .ne 7, 3) := by decide +kernel
theorem zd43_65 : decode zxm43.2.1 65 = .ok (.iconst 5, 1) := by decide +kernel
theorem zd43_66 : decode zxm43.2.1 66 = .ok (.goto 5, 3) := by decide +kernel
theorem zd43_69 : decode zxm43.2.1 69 = .ok (.bipush 6, 2) := by decide +kernel
theorem zd43_71 : decode zxm43.2.1 71 = .ok (.istore_n 2, 1) := by decide +kernel
theorem zd43_72 : decode zxm43.2.1 72 = .ok (.aload_n 0, 1) := by decide +kernel
theorem zd43_73 : decode zxm43.2.1 73 = .ok (.dup, 1) := by decide +kernel
theorem zd43_74 : decode zxm43.2.1 74 = .ok (.getfield 15, 3) := by decide +kernel
theorem zd43_77 : decode zxm43.2.1 77 = .ok (.iconst 1, 1) := by decide +kernel
theorem zd43_78 : decode zxm43.2.1 78 = .ok (.iadd, 1) := by decide +kernel
theorem zd43_79 : decode zxm43.2.1 79 = .ok (.putfield 15, 3) := by decide +kernel
theorem zd43_82 : decode zxm43.2.1 82 = .ok (.aload_n 0, 1) := by decide +kernel
theorem zd43_83 : decode zxm43.2.1 83 = .ok (.iload_n 1, 1) := by decide +kernel
theorem zd43_84 : decode zxm43.2.1 84 = .ok (.invokevirtual 88, 3) := by decide +kernel
theorem zd43_87 : decode zxm43.2.1 87 = .ok (.aload_n 0, 1) := by decide +kernel
theorem zd43_88 : decode zxm43.2.1 88 = .ok (.getfield 25, 3) := by decide +kernel
theorem zd43_91 : decode zxm43.2.1 91 = .ok (.iload_n 2, 1) := by decide +kernel
theorem zd43_92 : decode zxm43.2.1 92 = .ok (.iconst 0, 1) := by decide +kernel
theorem zd43_93 : decode zxm43.2.1 93 = .ok (.invokevirtual 76, 3) := by decide +kernel
theorem zd43_96 : decode zxm43.2.1 96 = .ok (.pop, 1) := by decide +kernel
theorem zd43_97 : decode zxm43.2.1 97 = .ok (.goto (-92), 3) := by decide +kernel
theorem zd43_100 : decode zxm43.2.1 100 = .ok (.return_, 1) := by decide +kernel
theorem zts_LawReader_readSum {dp : Nat} {rc : Nat → Int → Int → Int → Int → Int → (Int → Int) → (Int → Int) → (Int → Int) → Option (Int × Int × Int × (Int → Int) × (Int → Int))} (ih0 : ∀ (x1 : Int) (f0 : Int) (f1 : Int) (f2 : Int) (f4 : Int) (g0 : (Int → Int)) (g1 : (Int → Int)) (g2 : (Int → Int)) (o : Int × Int × Int × (Int → Int) × (Int → Int)), rc 0 x1 f0 f1 f2 f4 g0 g1 g2 = some o → zv_Fn z_TB z_cl z_KX zy_LawReader_readSum zxm43 (6 + dp, 60 * (6 + dp)) [.inr 0, .inl x1] [.inl f0, .inl f1, .inl f2, .inr 2, .inl f4] [g0, g1, g2] none [.inl o.1, .inl o.2.1, .inl f2, .inr 2, .inl o.2.2.1] [g0, o.2.2.2.1, o.2.2.2.2]) (ih1 : ∀ (x1 : Int) (f0 : Int) (f1 : Int) (f2 : Int) (f4 : Int) (g0 : (Int → Int)) (g1 : (Int → Int)) (g2 : (Int → Int)) (o : Int × Int × Int × (Int → Int) × (Int → Int)), rc 1 x1 f0 f1 f2 f4 g0 g1 g2 = some o → zv_Fn z_TB z_cl z_KX zy_LawReader_readSum zxm44 (6 + dp, 60 * (6 + dp)) [.inr 0, .inl x1] [.inl f0, .inl f1, .inl f2, .inr 2, .inl f4] [g0, g1, g2] none [.inl o.1, .inl o.2.1, .inl f2, .inr 2, .inl o.2.2.1] [g0, o.2.2.2.1, o.2.2.2.2]) (ih2 : ∀ (x1 : Int) (f0 : Int) (f1 : Int) (f2 : Int) (f4 : Int) (g0 : (Int → Int)) (g1 : (Int → Int)) (g2 : (Int → Int)) (o : Int × Int × Int × (Int → Int) × (Int → Int)), rc 2 x1 f0 f1 f2 f4 g0 g1 g2 = some o → zv_Fn z_TB z_cl z_KX zy_LawReader_readSum zxm45 (6 + dp, 60 * (6 + dp)) [.inr 0, .inl x1] [.inl f0, .inl f1, .inl f2, .inr 2, .inl f4] [g0, g1, g2] none [.inl o.1, .inl o.2.1, .inl f2, .inr 2, .inl o.2.2.1] [g0, o.2.2.2.1, o.2.2.2.2]) {x1 : Int} {f0 : Int} {f1 : Int} {f2 : Int} {f4 : Int} {g0 : (Int → Int)} {g1 : (Int → Int)} {g2 : (Int → Int)} {o : Int × Int × Int × (Int → Int) × (Int → Int)} (h : zm_LawReader_readSum rc x1 f0 f1 f2 f4 g0 g1 g2 = some o) : zv_Fn z_TB z_cl z_KX zy_LawReader_readSum zxm43 (6 + (dp + 1), 60 * (6 + (dp + 1))) [.inr 0, .inl x1] [.inl f0, .inl f1, .inl f2, .inr 2, .inl f4] [g0, g1, g2] none [.inl o.1, .inl o.2.1, .inl f2, .inr 2, .inl o.2.2.1] [g0, o.2.2.2.1, o.2.2.2.2] := zv_meth (K := (z_KF3, z_KC3, z_KL3, z_KT3, [], [], [], none)) (FT := z_FT) (MT := z_MT) (n := 2) zxp43 (z_ks3 _ (fun _ h => List.mem_cons_of_mem _ h) _ _ _ _ (fun j r h _ => by cases h)) (fun _ _ => zs_KX_p) zyw_LawReader_readSum (fun va F G h => by obtain ⟨rfl, _⟩ := h; rfl) (fun va F G h => by obtain ⟨rfl, _⟩ := h; rfl) rfl fun good va F G hB hret hvret hP => by
  obtain ⟨rfl, rfl, rfl⟩ := hP
  have l0 : ∀ (n : Nat) (x1 : Int) (f0 : Int) (f1 : Int) (f4 : Int) (g1 : (Int → Int)) (g2 : (Int → Int)) (q : Int × Int × Int × (Int → Int) × (Int → Int)), zm_LawReader_readSum_l0 rc x1 f2 g0 n f0 f1 f4 g1 g2 = some q → (good 100 [.inr 1000, .inr 1000, .inr 1000] [] [.inl q.1, .inl q.2.1, .inl f2, .inr 2, .inl q.2.2.1] [g0, q.2.2.2.1, q.2.2.2.2]) → good 5 [.inr 0, .inl x1, .inr 1000] [] [.inl f0, .inl f1, .inl f2, .inr 2, .inl f4] [g0, g1, g2] := by
    intro n
    induction n with
    | zero => intro x1 f0 f1 f4 g1 g2 q h; exact absurd (show none = some q from h) (fun h => by cases h)
    | succ n ih =>
      intro x1 f0 f1 f4 g1 g2 q h hK
      replace h : zm_LawReader_readSum_l0_b rc x1 f2 g0 (zm_LawReader_readSum_l0 rc x1 f2 g0 n) f0 f1 f4 g1 g2 = some q := h
      unfold zm_LawReader_readSum_l0_b at h
      refine zv_ald hB zd43_5 rfl rfl rfl ?_
      refine zv_getf hB zd43_6 rfl rfl (fun _ _ => ?_)
      refine zv_zne hB zd43_9 rfl (fun hc2 => ?_) (fun hc2 => ?_)
      · rw [if_neg hc2] at h
        have hq := Option.some.inj h
        subst hq
        refine zv_wk hB (L' := [.inr 1000, .inr 1000, .inr 1000]) (F' := [.inl f0, .inl f1, .inl f2, .inr 2, .inl f4]) ⟨fun (h : zv_is (.inr 1000)) => (Nat.lt_irrefl 1000 h).elim, fun (h : zv_is (.inr 1000)) => (Nat.lt_irrefl 1000 h).elim, fun (h : zv_is (.inr 1000)) => (Nat.lt_irrefl 1000 h).elim, trivial⟩ ⟨fun _ => rfl, fun _ => rfl, fun _ => rfl, fun _ => rfl, fun _ => rfl, trivial⟩ ?_
        exact hK
      · rw [if_pos hc2] at h
        refine zv_ald hB zd43_12 rfl rfl rfl ?_
        refine zv_getf hB zd43_13 rfl rfl (fun _ _ => ?_)
        refine zv_ald hB zd43_16 rfl rfl rfl ?_
        refine zv_getf hB zd43_17 rfl rfl (fun _ _ => ?_)
        refine zv_cge hB zd43_20 rfl (fun hc3 => ?_) (fun hc3 => ?_)
        · rw [if_neg (Int.not_lt.mpr hc3)] at h
          have hq := Option.some.inj h
          subst hq
          refine zv_wk hB (L' := [.inr 1000, .inr 1000, .inr 1000]) (F' := [.inl f0, .inl f1, .inl f2, .inr 2, .inl f4]) ⟨fun (h : zv_is (.inr 1000)) => (Nat.lt_irrefl 1000 h).elim, fun (h : zv_is (.inr 1000)) => (Nat.lt_irrefl 1000 h).elim, fun (h : zv_is (.inr 1000)) => (Nat.lt_irrefl 1000 h).elim, trivial⟩ ⟨fun _ => rfl, fun _ => rfl, fun _ => rfl, fun _ => rfl, fun _ => rfl, trivial⟩ ?_
          exact hK
        · rw [if_pos hc3] at h
          refine zv_ald hB zd43_23 rfl rfl rfl ?_
          refine zv_getr hB zd43_24 rfl ?_
          refine zv_ald hB zd43_27 rfl rfl rfl ?_
          refine zv_getf hB zd43_28 rfl rfl (fun _ _ => ?_)
          obtain ⟨c4, h⟩ := zi_if h
          refine zv_iald hB zd43_31 rfl rfl (zi_ix_ok c4).1 (zi_ix_ok c4).2 (fun _ _ => ?_)
          refine zv_con hB zd43_32 rfl ?_
          refine zv_ceq hB zd43_34 rfl (fun hc5 => ?_) (fun hc5 => ?_)
          · rw [if_pos hc5] at h
            refine zv_ald hB zd43_51 rfl rfl rfl ?_
            refine zv_getr hB zd43_52 rfl ?_
            refine zv_ald hB zd43_55 rfl rfl rfl ?_
            refine zv_getf hB zd43_56 rfl rfl (fun _ _ => ?_)
            refine zv_iald hB zd43_59 rfl rfl (zi_ix_ok c4).1 (zi_ix_ok c4).2 (fun _ _ => ?_)
            refine zv_con hB zd43_60 rfl ?_
            refine zv_cne hB zd43_62 rfl (fun hc => absurd hc (by omega)) (fun _ => ?_)
            refine zv_con hB zd43_65 rfl ?_
            refine zv_goto hB zd43_66 rfl ?_
            refine zv_ist hB zd43_71 rfl rfl rfl ?_
            refine zv_ald hB zd43_72 rfl rfl rfl ?_
            refine zv_dup hB zd43_73 rfl ?_
            refine zv_getf hB zd43_74 rfl rfl (fun _ _ => ?_)
            refine zv_con hB zd43_77 rfl ?_
            refine zv_addw hB zd43_78 ?_
            refine zv_putf hB zd43_79 rfl rfl (fun h => by cases h) rfl ?_
            refine zv_ald hB zd43_82 rfl rfl rfl ?_
            refine zv_ild hB zd43_83 rfl rfl ?_
            obtain ⟨r7, hr7, h⟩ := zi_bind h
            refine zv_cv hB (show zv_Fn _ _ _ zy_LawReader_readSum _ _ [.inr 0, .inl x1] [.inl f0, .inl (zi_w (f1 + 1)), .inl f2, .inr 2, .inl f4] [g0, g1, g2] none [.inl r7.1, .inl r7.2.1, .inl f2, .inr 2, .inl r7.2.2.1] [g0, r7.2.2.2.1, r7.2.2.2.2] from ih1 _ _ _ _ _ _ _ _ r7 hr7) zd43_84 zxt44 rfl (by show 6 + dp + 1 ≤ 6 + (dp + 1); omega) (by show 8 + (3 + 11) + 60 * (6 + dp) ≤ 60 * (6 + (dp + 1)); omega) rfl ?_
            refine zv_ald hB zd43_87 rfl rfl rfl ?_
            refine zv_getq hB zd43_88 rfl rfl rfl ?_
            refine zv_ild hB zd43_91 rfl rfl ?_
            refine zv_con hB zd43_92 rfl ?_
            obtain ⟨r8, hr8, h⟩ := zi_bind h
            refine zv_cv hB (zv_emq (va2 := [.inr 2, .inl 5, .inl 0]) (F := [.inl r7.1, .inl r7.2.1, .inl f2, .inr 2, .inl r7.2.2.1]) (F' := [.inl r7.1, .inl r7.2.1, .inl f2, .inr 2, .inl r8.2.1]) (G := [g0, r7.2.2.2.1, r7.2.2.2.2]) (G' := [g0, r8.2.2.1, r8.2.2.2]) (ρ := [2, 3, 4]) (φ := [4]) (ψ := [1, 2]) [none, none, none, none, some 0] [none, some 0, some 1] zyw_Law_addStep zyw_LawReader_readSum zye_LawReader_readSum (by decide +kernel) (zt_Law_addStep hr8) ⟨⟨_, rfl, fun _ => rfl⟩, trivial⟩ ⟨rfl, rfl, trivial⟩ rfl rfl rfl rfl rfl rfl rfl) zd43_93 zxt49 rfl (by show 0 + 1 ≤ 6 + (dp + 1); omega) (by show 8 + (3 + 11) + 60 * (0) ≤ 60 * (6 + (dp + 1)); omega) rfl ?_
            refine zv_pop hB zd43_96 rfl ?_
            refine zv_goto hB zd43_97 rfl ?_
            refine zv_wk hB (L' := [.inr 0, .inl x1, .inr 1000]) (F' := [.inl r7.1, .inl r7.2.1, .inl f2, .inr 2, .inl r8.2.1]) ⟨fun _ => rfl, fun _ => rfl, fun (h : zv_is (.inr 1000)) => (Nat.lt_irrefl 1000 h).elim, trivial⟩ ⟨fun _ => rfl, fun _ => rfl, fun _ => rfl, fun _ => rfl, fun _ => rfl, trivial⟩ ?_
            exact ih _ _ _ _ _ _ q h hK
          · rw [if_neg hc5] at h
            refine zv_ald hB zd43_37 rfl rfl rfl ?_
            refine zv_getr hB zd43_38 rfl ?_
            refine zv_ald hB zd43_41 rfl rfl rfl ?_
            refine zv_getf hB zd43_42 rfl rfl (fun _ _ => ?_)
            refine zv_iald hB zd43_45 rfl rfl (zi_ix_ok c4).1 (zi_ix_ok c4).2 (fun _ _ => ?_)
            refine zv_con hB zd43_46 rfl ?_
            refine zv_cne hB zd43_48 rfl (fun hc9 => ?_) (fun hc9 => ?_)
            · rw [if_neg hc9] at h
              have hq := Option.some.inj h
              subst hq
              refine zv_wk hB (L' := [.inr 1000, .inr 1000, .inr 1000]) (F' := [.inl f0, .inl f1, .inl f2, .inr 2, .inl f4]) ⟨fun (h : zv_is (.inr 1000)) => (Nat.lt_irrefl 1000 h).elim, fun (h : zv_is (.inr 1000)) => (Nat.lt_irrefl 1000 h).elim, fun (h : zv_is (.inr 1000)) => (Nat.lt_irrefl 1000 h).elim, trivial⟩ ⟨fun _ => rfl, fun _ => rfl, fun _ => rfl, fun _ => rfl, fun _ => rfl, trivial⟩ ?_
              exact hK
            · rw [if_pos hc9] at h
              refine zv_ald hB zd43_51 rfl rfl rfl ?_
              refine zv_getr hB zd43_52 rfl ?_
              refine zv_ald hB zd43_55 rfl rfl rfl ?_
              refine zv_getf hB zd43_56 rfl rfl (fun _ _ => ?_)
              refine zv_iald hB zd43_59 rfl rfl (zi_ix_ok c4).1 (zi_ix_ok c4).2 (fun _ _ => ?_)
              refine zv_con hB zd43_60 rfl ?_
              refine zv_cne hB zd43_62 rfl (fun _ => ?_) (fun hc => absurd hc (by omega))
              refine zv_con hB zd43_69 rfl ?_
              refine zv_ist hB zd43_71 rfl rfl rfl ?_
              refine zv_ald hB zd43_72 rfl rfl rfl ?_
              refine zv_dup hB zd43_73 rfl ?_
              refine zv_getf hB zd43_74 rfl rfl (fun _ _ => ?_)
              refine zv_con hB zd43_77 rfl ?_
              refine zv_addw hB zd43_78 ?_
              refine zv_putf hB zd43_79 rfl rfl (fun h => by cases h) rfl ?_
              refine zv_ald hB zd43_82 rfl rfl rfl ?_
              refine zv_ild hB zd43_83 rfl rfl ?_
              obtain ⟨r11, hr11, h⟩ := zi_bind h
              refine zv_cv hB (show zv_Fn _ _ _ zy_LawReader_readSum _ _ [.inr 0, .inl x1] [.inl f0, .inl (zi_w (f1 + 1)), .inl f2, .inr 2, .inl f4] [g0, g1, g2] none [.inl r11.1, .inl r11.2.1, .inl f2, .inr 2, .inl r11.2.2.1] [g0, r11.2.2.2.1, r11.2.2.2.2] from ih1 _ _ _ _ _ _ _ _ r11 hr11) zd43_84 zxt44 rfl (by show 6 + dp + 1 ≤ 6 + (dp + 1); omega) (by show 8 + (3 + 11) + 60 * (6 + dp) ≤ 60 * (6 + (dp + 1)); omega) rfl ?_
              refine zv_ald hB zd43_87 rfl rfl rfl ?_
              refine zv_getq hB zd43_88 rfl rfl rfl ?_
              refine zv_ild hB zd43_91 rfl rfl ?_
              refine zv_con hB zd43_92 rfl ?_
              obtain ⟨r12, hr12, h⟩ := zi_bind h
              refine zv_cv hB (zv_emq (va2 := [.inr 2, .inl 6, .inl 0]) (F := [.inl r11.1, .inl r11.2.1, .inl f2, .inr 2, .inl r11.2.2.1]) (F' := [.inl r11.1, .inl r11.2.1, .inl f2, .inr 2, .inl r12.2.1]) (G := [g0, r11.2.2.2.1, r11.2.2.2.2]) (G' := [g0, r12.2.2.1, r12.2.2.2]) (ρ := [2, 3, 4]) (φ := [4]) (ψ := [1, 2]) [none, none, none, none, some 0] [none, some 0, some 1] zyw_Law_addStep zyw_LawReader_readSum zye_LawReader_readSum (by decide +kernel) (zt_Law_addStep hr12) ⟨⟨_, rfl, fun _ => rfl⟩, trivial⟩ ⟨rfl, rfl, trivial⟩ rfl rfl rfl rfl rfl rfl rfl) zd43_93 zxt49 rfl (by show 0 + 1 ≤ 6 + (dp + 1); omega) (by show 8 + (3 + 11) + 60 * (0) ≤ 60 * (6 + (dp + 1)); omega) rfl ?_
              refine zv_pop hB zd43_96 rfl ?_
              refine zv_goto hB zd43_97 rfl ?_
              refine zv_wk hB (L' := [.inr 0, .inl x1, .inr 1000]) (F' := [.inl r11.1, .inl r11.2.1, .inl f2, .inr 2, .inl r12.2.1]) ⟨fun _ => rfl, fun _ => rfl, fun (h : zv_is (.inr 1000)) => (Nat.lt_irrefl 1000 h).elim, trivial⟩ ⟨fun _ => rfl, fun _ => rfl, fun _ => rfl, fun _ => rfl, fun _ => rfl, trivial⟩ ?_
              exact ih _ _ _ _ _ _ q h hK
  unfold zm_LawReader_readSum at h
  refine zv_ald hB zd43_0 rfl rfl rfl ?_
  refine zv_ild hB zd43_1 rfl rfl ?_
  obtain ⟨r1, hr1, h⟩ := zi_bind h
  refine zv_cv hB (show zv_Fn _ _ _ zy_LawReader_readSum _ _ [.inr 0, .inl x1] [.inl f0, .inl f1, .inl f2, .inr 2, .inl f4] [g0, g1, g2] none [.inl r1.1, .inl r1.2.1, .inl f2, .inr 2, .inl r1.2.2.1] [g0, r1.2.2.2.1, r1.2.2.2.2] from ih1 _ _ _ _ _ _ _ _ r1 hr1) zd43_2 zxt44 rfl (by show 6 + dp + 1 ≤ 6 + (dp + 1); omega) (by show 8 + (3 + 11) + 60 * (6 + dp) ≤ 60 * (6 + (dp + 1)); omega) rfl ?_
  obtain ⟨q13, hq13, h⟩ := zi_bind h
  refine l0 _ _ _ _ _ _ _ q13 hq13 ?_
  show good 100 [.inr 1000, .inr 1000, .inr 1000] [] [.inl q13.1, .inl q13.2.1, .inl f2, .inr 2, .inl q13.2.2.1] [g0, q13.2.2.2.1, q13.2.2.2.2]
  have hw := Option.some.inj h
  subst hw
  exact hvret _ _ _ _ zd43_100 trivial ⟨rfl, rfl, rfl⟩
/-! LawReader_readTerm (I)V -/
def zm_LawReader_readTerm_l0_b (rc : Nat → Int → Int → Int → Int → Int → (Int → Int) → (Int → Int) → (Int → Int) → Option (Int × Int × Int × (Int → Int) × (Int → Int))) (x1 : Int) (f2 : Int) (g0 : (Int → Int)) (rec : Int → Int → Int → (Int → Int) → (Int → Int) → Option (Int × Int × Int × (Int → Int) × (Int → Int))) (f0 : Int) (f1 : Int) (f4 : Int) (g1 : (Int → Int)) (g2 : (Int → Int)) : Option (Int × Int × Int × (Int → Int) × (Int → Int)) := if f0 = 0 then (if f1 < f2 then (cond (zi_ix f1 220) (if (g0 f1) = 42 then ((rc 2 x1 f0 (zi_w (f1 + 1)) f2 f4 g0 g1 g2).bind fun r7 => ((zf_Law_addStep 7 0 r7.2.2.1 r7.2.2.2.1 r7.2.2.2.2).bind fun r8 => (rec r7.1 r7.2.1 r8.2.1 r8.2.2.1 r8.2.2.2))) else (if (g0 f1) = 47 then ((rc 2 x1 f0 (zi_w (f1 + 1)) f2 f4 g0 g1 g2).bind fun r12 => ((zf_Law_addStep 8 0 r12.2.2.1 r12.2.2.2.1 r12.2.2.2.2).bind fun r13 => (rec r12.1 r12.2.1 r13.2.1 r13.2.2.1 r13.2.2.2))) else (if (g0 f1) = 37 then ((rc 2 x1 f0 (zi_w (f1 + 1)) f2 f4 g0 g1 g2).bind fun r17 => ((zf_Law_addStep 9 0 r17.2.2.1 r17.2.2.2.1 r17.2.2.2.2).bind fun r18 => (rec r17.1 r17.2.1 r18.2.1 r18.2.2.1 r18.2.2.2))) else (some (f0, f1, f4, g1, g2))))) none) else (some (f0, f1, f4, g1, g2))) else (some (f0, f1, f4, g1, g2))
def zm_LawReader_readTerm_l0 (rc : Nat → Int → Int → Int → Int → Int → (Int → Int) → (Int → Int) → (Int → Int) → Option (Int × Int × Int × (Int → Int) × (Int → Int))) (x1 : Int) (f2 : Int) (g0 : (Int → Int)) : Nat → Int → Int → Int → (Int → Int) → (Int → Int) → Option (Int × Int × Int × (Int → Int) × (Int → Int))
  | 0, _, _, _, _, _ => none
  | n + 1, f0, f1, f4, g1, g2 => zm_LawReader_readTerm_l0_b rc x1 f2 g0 (zm_LawReader_readTerm_l0 rc x1 f2 g0 n) f0 f1 f4 g1 g2
def zm_LawReader_readTerm (rc : Nat → Int → Int → Int → Int → Int → (Int → Int) → (Int → Int) → (Int → Int) → Option (Int × Int × Int × (Int → Int) × (Int → Int))) (x1 : Int) (f0 : Int) (f1 : Int) (f2 : Int) (f4 : Int) (g0 : (Int → Int)) (g1 : (Int → Int)) (g2 : (Int → Int)) : Option (Int × Int × Int × (Int → Int) × (Int → Int)) := (rc 2 x1 f0 f1 f2 f4 g0 g1 g2).bind fun r1 => ((zm_LawReader_readTerm_l0 rc x1 f2 g0 zi_fu r1.1 r1.2.1 r1.2.2.1 r1.2.2.2.1 r1.2.2.2.2).bind fun q19 => (some (q19.1, q19.2.1, q19.2.2.1, q19.2.2.2.1, q19.2.2.2.2)))
theorem zd44_0 : decode zxm44.2.1 0 = .ok (.aload_n 0, 1) := by decide +kernel
theorem zd44_1 : decode zxm44.2.1 1 = .ok (.iload_n 1, 1) := by decide +kernel
theorem zd44_2 : decode zxm44.2.1 2 = .ok (.invokevirtual 91, 3) := by decide +kernel
theorem zd44_5 : decode zxm44.2.1 5 = .ok (.aload_n 0, 1) := by decide +kernel
theorem zd44_6 : decode zxm44.2.1 6 = .ok (.getfield 18, 3) := by decide +kernel
theorem zd44_9 : decode zxm44.2.1 9 = .ok (.ifCond .ne 125, 3) := by decide +kernel
theorem zd44_12 : decode zxm44.2.1 12 = .ok (.aload_n 0, 1) := by decide +kernel
theorem zd44_13 : decode zxm44.2.1 13 = .ok (.getfield 15, 3) := by decide +kernel
theorem zd44_16 : decode zxm44.2.1 16 = .ok (.aload_n 0, 1) := by decide +kernel
theorem zd44_17 : decode zxm44.2.1 17 = .ok (.getfield 9, 3) := by decide +kernel
theorem zd44_20 : decode zxm44.2.1 20 = .ok (.if_icmp .ge 114, 3) := by decide +kernel
theorem zd44_23 : decode zxm44.2.1 23 = .ok (.aload_n 0, 1) := by decide +kernel
theorem zd44_24 : decode zxm44.2.1 24 = .ok (.getfield 21, 3) := by decide +kernel
theorem zd44_27 : decode zxm44.2.1 27 = .ok (.aload_n 0, 1) := by decide +kernel
theorem zd44_28 : decode zxm44.2.1 28 = .ok (.getfield 15, 3) := by decide +kernel
theorem zd44_31 : decode zxm44.2.1 31 = .ok (.iaload, 1) := by decide +kernel
theorem zd44_32 : decode zxm44.2.1 32 = .ok (.bipush 42, 2) := by decide +kernel
theorem zd44_34 : decode zxm44.2.1 34 = .ok (.if_icmp .eq 31, 3) := by decide +kernel
theorem zd44_37 : decode zxm44.2.1 37 = .ok (.aload_n 0, 1) := by decide +kernel
theorem zd44_38 : decode zxm44.2.1 38 = .ok (.getfield 21, 3) := by decide +kernel
theorem zd44_41 : decode zxm44.2.1 41 = .ok (.aload_n 0, 1) := by decide +kernel
theorem zd44_42 : decode zxm44.2.1 42 = .ok (.getfield 15, 3) := by decide +kernel
theorem zd44_45 : decode zxm44.2.1 45 = .ok (.iaload, 1) := by decide +kernel
theorem zd44_46 : decode zxm44.2.1 46 = .ok (.bipush 47, 2) := by decide +kernel
theorem zd44_48 : decode zxm44.2.1 48 = .ok (.if_icmp .eq 17, 3) := by decide +kernel
theorem zd44_51 : decode zxm44.2.1 51 = .ok (.aload_n 0, 1) := by decide +kernel
theorem zd44_52 : decode zxm44.2.1 52 = .ok (.getfield 21, 3) := by decide +kernel
theorem zd44_55 : decode zxm44.2.1 55 = .ok (.aload_n 0, 1) := by decide +kernel
theorem zd44_56 : decode zxm44.2.1 56 = .ok (.getfield 15, 3) := by decide +kernel
theorem zd44_59 : decode zxm44.2.1 59 = .ok (.iaload, 1) := by decide +kernel
theorem zd44_60 : decode zxm44.2.1 60 = .ok (.bipush 37, 2) := by decide +kernel
theorem zd44_62 : decode zxm44.2.1 62 = .ok (.if_icmp .ne 72, 3) := by decide +kernel
theorem zd44_65 : decode zxm44.2.1 65 = .ok (.aload_n 0, 1) := by decide +kernel
theorem zd44_66 : decode zxm44.2.1 66 = .ok (.getfield 21, 3) := by decide +kernel
theorem zd44_69 : decode zxm44.2.1 69 = .ok (.aload_n 0, 1) := by decide +kernel
theorem zd44_70 : decode zxm44.2.1 70 = .ok (.getfield 15, 3) := by decide +kernel
theorem zd44_73 : decode zxm44.2.1 73 = .ok (.iaload, 1) := by decide +kernel
theorem zd44_74 : decode zxm44.2.1 74 = .ok (.bipush 42, 2) := by decide +kernel
theorem zd44_76 : decode zxm44.2.1 76 = .ok (.if_icmp .ne 8, 3) := by decide +kernel
theorem zd44_79 : decode zxm44.2.1 79 = .ok (.bipush 7, 2) := by decide +kernel
theorem zd44_81 : decode zxm44.2.1 81 = .ok (.goto 24, 3) := by decide +kernel
theorem zd44_84 : decode zxm44.2.1 84 = .ok (.aload_n 0, 1) := by decide +kernel
theorem zd44_85 : decode zxm44.2.1 85 = .ok (.getfield 21, 3) := by decide +kernel
theorem zd44_88 : decode zxm44.2.1 88 = .ok (.aload_n 0, 1) := by decide +kernel
theorem zd44_89 : decode zxm44.2.1 89 = .ok (.getfield 15, 3) := by decide +kernel
theorem zd44_92 : decode zxm44.2.1 92 = .ok (.iaload, 1) := by decide +kernel
theorem zd44_93 : decode zxm44.2.1 93 = .ok (.bipush 47, 2) := by decide +kernel
theorem zd44_95 : decode zxm44.2.1 95 = .ok (.if_icmp .ne 8, 3) := by decide +kernel
theorem zd44_98 : decode zxm44.2.1 98 = .ok (.bipush 8, 2) := by decide +kernel
theorem zd44_100 : decode zxm44.2.1 100 = .ok (.goto 5, 3) := by decide +kernel
theorem zd44_103 : decode zxm44.2.1 103 = .ok (.bipush 9, 2) := by decide +kernel
theorem zd44_105 : decode zxm44.2.1 105 = .ok (.istore_n 2, 1) := by decide +kernel
theorem zd44_106 : decode zxm44.2.1 106 = .ok (.aload_n 0, 1) := by decide +kernel
theorem zd44_107 : decode zxm44.2.1 107 = .ok (.dup, 1) := by decide +kernel
theorem zd44_108 : decode zxm44.2.1 108 = .ok (.getfield 15, 3) := by decide +kernel
theorem zd44_111 : decode zxm44.2.1 111 = .ok (.iconst 1, 1) := by decide +kernel
theorem zd44_112 : decode zxm44.2.1 112 = .ok (.iadd, 1) := by decide +kernel
theorem zd44_113 : decode zxm44.2.1 113 = .ok (.putfield 15, 3) := by decide +kernel
theorem zd44_116 : decode zxm44.2.1 116 = .ok (.aload_n 0, 1) := by decide +kernel
theorem zd44_117 : decode zxm44.2.1 117 = .ok (.iload_n 1, 1) := by decide +kernel
theorem zd44_118 : decode zxm44.2.1 118 = .ok (.invokevirtual 91, 3) := by decide +kernel
theorem zd44_121 : decode zxm44.2.1 121 = .ok (.aload_n 0, 1) := by decide +kernel
theorem zd44_122 : decode zxm44.2.1 122 = .ok (.getfield 25, 3) := by decide +kernel
theorem zd44_125 : decode zxm44.2.1 125 = .ok (.iload_n 2, 1) := by decide +kernel
theorem zd44_126 : decode zxm44.2.1 126 = .ok (.iconst 0, 1) := by decide +kernel
theorem zd44_127 : decode zxm44.2.1 127 = .ok (.invokevirtual 76, 3) := by decide +kernel
theorem zd44_130 : decode zxm44.2.1 130 = .ok (.pop, 1) := by decide +kernel
theorem zd44_131 : decode zxm44.2.1 131 = .ok (.goto (-126), 3) := by decide +kernel
theorem zd44_134 : decode zxm44.2.1 134 = .ok (.return_, 1) := by decide +kernel
theorem zts_LawReader_readTerm {dp : Nat} {rc : Nat → Int → Int → Int → Int → Int → (Int → Int) → (Int → Int) → (Int → Int) → Option (Int × Int × Int × (Int → Int) × (Int → Int))} (ih0 : ∀ (x1 : Int) (f0 : Int) (f1 : Int) (f2 : Int) (f4 : Int) (g0 : (Int → Int)) (g1 : (Int → Int)) (g2 : (Int → Int)) (o : Int × Int × Int × (Int → Int) × (Int → Int)), rc 0 x1 f0 f1 f2 f4 g0 g1 g2 = some o → zv_Fn z_TB z_cl z_KX zy_LawReader_readSum zxm43 (6 + dp, 60 * (6 + dp)) [.inr 0, .inl x1] [.inl f0, .inl f1, .inl f2, .inr 2, .inl f4] [g0, g1, g2] none [.inl o.1, .inl o.2.1, .inl f2, .inr 2, .inl o.2.2.1] [g0, o.2.2.2.1, o.2.2.2.2]) (ih1 : ∀ (x1 : Int) (f0 : Int) (f1 : Int) (f2 : Int) (f4 : Int) (g0 : (Int → Int)) (g1 : (Int → Int)) (g2 : (Int → Int)) (o : Int × Int × Int × (Int → Int) × (Int → Int)), rc 1 x1 f0 f1 f2 f4 g0 g1 g2 = some o → zv_Fn z_TB z_cl z_KX zy_LawReader_readSum zxm44 (6 + dp, 60 * (6 + dp)) [.inr 0, .inl x1] [.inl f0, .inl f1, .inl f2, .inr 2, .inl f4] [g0, g1, g2] none [.inl o.1, .inl o.2.1, .inl f2, .inr 2, .inl o.2.2.1] [g0, o.2.2.2.1, o.2.2.2.2]) (ih2 : ∀ (x1 : Int) (f0 : Int) (f1 : Int) (f2 : Int) (f4 : Int) (g0 : (Int → Int)) (g1 : (Int → Int)) (g2 : (Int → Int)) (o : Int × Int × Int × (Int → Int) × (Int → Int)), rc 2 x1 f0 f1 f2 f4 g0 g1 g2 = some o → zv_Fn z_TB z_cl z_KX zy_LawReader_readSum zxm45 (6 + dp, 60 * (6 + dp)) [.inr 0, .inl x1] [.inl f0, .inl f1, .inl f2, .inr 2, .inl f4] [g0, g1, g2] none [.inl o.1, .inl o.2.1, .inl f2, .inr 2, .inl o.2.2.1] [g0, o.2.2.2.1, o.2.2.2.2]) {x1 : Int} {f0 : Int} {f1 : Int} {f2 : Int} {f4 : Int} {g0 : (Int → Int)} {g1 : (Int → Int)} {g2 : (Int → Int)} {o : Int × Int × Int × (Int → Int) × (Int → Int)} (h : zm_LawReader_readTerm rc x1 f0 f1 f2 f4 g0 g1 g2 = some o) : zv_Fn z_TB z_cl z_KX zy_LawReader_readSum zxm44 (6 + (dp + 1), 60 * (6 + (dp + 1))) [.inr 0, .inl x1] [.inl f0, .inl f1, .inl f2, .inr 2, .inl f4] [g0, g1, g2] none [.inl o.1, .inl o.2.1, .inl f2, .inr 2, .inl o.2.2.1] [g0, o.2.2.2.1, o.2.2.2.2] := zv_meth (K := (z_KF3, z_KC3, z_KL3, z_KT3, [], [], [], none)) (FT := z_FT) (MT := z_MT) (n := 2) zxp44 (z_ks3 _ (fun _ h => List.mem_cons_of_mem _ h) _ _ _ _ (fun j r h _ => by cases h)) (fun _ _ => zs_KX_p) zyw_LawReader_readSum (fun va F G h => by obtain ⟨rfl, _⟩ := h; rfl) (fun va F G h => by obtain ⟨rfl, _⟩ := h; rfl) rfl fun good va F G hB hret hvret hP => by
  obtain ⟨rfl, rfl, rfl⟩ := hP
  have l0 : ∀ (n : Nat) (x1 : Int) (f0 : Int) (f1 : Int) (f4 : Int) (g1 : (Int → Int)) (g2 : (Int → Int)) (q : Int × Int × Int × (Int → Int) × (Int → Int)), zm_LawReader_readTerm_l0 rc x1 f2 g0 n f0 f1 f4 g1 g2 = some q → (good 134 [.inr 1000, .inr 1000, .inr 1000] [] [.inl q.1, .inl q.2.1, .inl f2, .inr 2, .inl q.2.2.1] [g0, q.2.2.2.1, q.2.2.2.2]) → good 5 [.inr 0, .inl x1, .inr 1000] [] [.inl f0, .inl f1, .inl f2, .inr 2, .inl f4] [g0, g1, g2] := by
    intro n
    induction n with
    | zero => intro x1 f0 f1 f4 g1 g2 q h; exact absurd (show none = some q from h) (fun h => by cases h)
    | succ n ih =>
      intro x1 f0 f1 f4 g1 g2 q h hK
      replace h : zm_LawReader_readTerm_l0_b rc x1 f2 g0 (zm_LawReader_readTerm_l0 rc x1 f2 g0 n) f0 f1 f4 g1 g2 = some q := h
      unfold zm_LawReader_readTerm_l0_b at h
      refine zv_ald hB zd44_5 rfl rfl rfl ?_
      refine zv_getf hB zd44_6 rfl rfl (fun _ _ => ?_)
      refine zv_zne hB zd44_9 rfl (fun hc2 => ?_) (fun hc2 => ?_)
      · rw [if_neg hc2] at h
        have hq := Option.some.inj h
        subst hq
        refine zv_wk hB (L' := [.inr 1000, .inr 1000, .inr 1000]) (F' := [.inl f0, .inl f1, .inl f2, .inr 2, .inl f4]) ⟨fun (h : zv_is (.inr 1000)) => (Nat.lt_irrefl 1000 h).elim, fun (h : zv_is (.inr 1000)) => (Nat.lt_irrefl 1000 h).elim, fun (h : zv_is (.inr 1000)) => (Nat.lt_irrefl 1000 h).elim, trivial⟩ ⟨fun _ => rfl, fun _ => rfl, fun _ => rfl, fun _ => rfl, fun _ => rfl, trivial⟩ ?_
        exact hK
      · rw [if_pos hc2] at h
        refine zv_ald hB zd44_12 rfl rfl rfl ?_
        refine zv_getf hB zd44_13 rfl rfl (fun _ _ => ?_)
        refine zv_ald hB zd44_16 rfl rfl rfl ?_
        refine zv_getf hB zd44_17 rfl rfl (fun _ _ => ?_)
        refine zv_cge hB zd44_20 rfl (fun hc3 => ?_) (fun hc3 => ?_)
        · rw [if_neg (Int.not_lt.mpr hc3)] at h
          have hq := Option.some.inj h
          subst hq
          refine zv_wk hB (L' := [.inr 1000, .inr 1000, .inr 1000]) (F' := [.inl f0, .inl f1, .inl f2, .inr 2, .inl f4]) ⟨fun (h : zv_is (.inr 1000)) => (Nat.lt_irrefl 1000 h).elim, fun (h : zv_is (.inr 1000)) => (Nat.lt_irrefl 1000 h).elim, fun (h : zv_is (.inr 1000)) => (Nat.lt_irrefl 1000 h).elim, trivial⟩ ⟨fun _ => rfl, fun _ => rfl, fun _ => rfl, fun _ => rfl, fun _ => rfl, trivial⟩ ?_
          exact hK
        · rw [if_pos hc3] at h
          refine zv_ald hB zd44_23 rfl rfl rfl ?_
          refine zv_getr hB zd44_24 rfl ?_
          refine zv_ald hB zd44_27 rfl rfl rfl ?_
          refine zv_getf hB zd44_28 rfl rfl (fun _ _ => ?_)
          obtain ⟨c4, h⟩ := zi_if h
          refine zv_iald hB zd44_31 rfl rfl (zi_ix_ok c4).1 (zi_ix_ok c4).2 (fun _ _ => ?_)
          refine zv_con hB zd44_32 rfl ?_
          refine zv_ceq hB zd44_34 rfl (fun hc5 => ?_) (fun hc5 => ?_)
          · rw [if_pos hc5] at h
            refine zv_ald hB zd44_65 rfl rfl rfl ?_
            refine zv_getr hB zd44_66 rfl ?_
            refine zv_ald hB zd44_69 rfl rfl rfl ?_
            refine zv_getf hB zd44_70 rfl rfl (fun _ _ => ?_)
            refine zv_iald hB zd44_73 rfl rfl (zi_ix_ok c4).1 (zi_ix_ok c4).2 (fun _ _ => ?_)
            refine zv_con hB zd44_74 rfl ?_
            refine zv_cne hB zd44_76 rfl (fun hc => absurd hc (by omega)) (fun _ => ?_)
            refine zv_con hB zd44_79 rfl ?_
            refine zv_goto hB zd44_81 rfl ?_
            refine zv_ist hB zd44_105 rfl rfl rfl ?_
            refine zv_ald hB zd44_106 rfl rfl rfl ?_
            refine zv_dup hB zd44_107 rfl ?_
            refine zv_getf hB zd44_108 rfl rfl (fun _ _ => ?_)
            refine zv_con hB zd44_111 rfl ?_
            refine zv_addw hB zd44_112 ?_
            refine zv_putf hB zd44_113 rfl rfl (fun h => by cases h) rfl ?_
            refine zv_ald hB zd44_116 rfl rfl rfl ?_
            refine zv_ild hB zd44_117 rfl rfl ?_
            obtain ⟨r7, hr7, h⟩ := zi_bind h
            refine zv_cv hB (show zv_Fn _ _ _ zy_LawReader_readSum _ _ [.inr 0, .inl x1] [.inl f0, .inl (zi_w (f1 + 1)), .inl f2, .inr 2, .inl f4] [g0, g1, g2] none [.inl r7.1, .inl r7.2.1, .inl f2, .inr 2, .inl r7.2.2.1] [g0, r7.2.2.2.1, r7.2.2.2.2] from ih2 _ _ _ _ _ _ _ _ r7 hr7) zd44_118 zxt45 rfl (by show 6 + dp + 1 ≤ 6 + (dp + 1); omega) (by show 8 + (4 + 11) + 60 * (6 + dp) ≤ 60 * (6 + (dp + 1)); omega) rfl ?_
            refine zv_ald hB zd44_121 rfl rfl rfl ?_
            refine zv_getq hB zd44_122 rfl rfl rfl ?_
            refine zv_ild hB zd44_125 rfl rfl ?_
            refine zv_con hB zd44_126 rfl ?_
            obtain ⟨r8, hr8, h⟩ := zi_bind h
            refine zv_cv hB (zv_emq (va2 := [.inr 2, .inl 7, .inl 0]) (F := [.inl r7.1, .inl r7.2.1, .inl f2, .inr 2, .inl r7.2.2.1]) (F' := [.inl r7.1, .inl r7.2.1, .inl f2, .inr 2, .inl r8.2.1]) (G := [g0, r7.2.2.2.1, r7.2.2.2.2]) (G' := [g0, r8.2.2.1, r8.2.2.2]) (ρ := [2, 3, 4]) (φ := [4]) (ψ := [1, 2]) [none, none, none, none, some 0] [none, some 0, some 1] zyw_Law_addStep zyw_LawReader_readSum zye_LawReader_readSum (by decide +kernel) (zt_Law_addStep hr8) ⟨⟨_, rfl, fun _ => rfl⟩, trivial⟩ ⟨rfl, rfl, trivial⟩ rfl rfl rfl rfl rfl rfl rfl) zd44_127 zxt49 rfl (by show 0 + 1 ≤ 6 + (dp + 1); omega) (by show 8 + (3 + 11) + 60 * (0) ≤ 60 * (6 + (dp + 1)); omega) rfl ?_
            refine zv_pop hB zd44_130 rfl ?_
            refine zv_goto hB zd44_131 rfl ?_
            refine zv_wk hB (L' := [.inr 0, .inl x1, .inr 1000]) (F' := [.inl r7.1, .inl r7.2.1, .inl f2, .inr 2, .inl r8.2.1]) ⟨fun _ => rfl, fun _ => rfl, fun (h : zv_is (.inr 1000)) => (Nat.lt_irrefl 1000 h).elim, trivial⟩ ⟨fun _ => rfl, fun _ => rfl, fun _ => rfl, fun _ => rfl, fun _ => rfl, trivial⟩ ?_
            exact ih _ _ _ _ _ _ q h hK
          · rw [if_neg hc5] at h
            refine zv_ald hB zd44_37 rfl rfl rfl ?_
            refine zv_getr hB zd44_38 rfl ?_
            refine zv_ald hB zd44_41 rfl rfl rfl ?_
            refine zv_getf hB zd44_42 rfl rfl (fun _ _ => ?_)
            refine zv_iald hB zd44_45 rfl rfl (zi_ix_ok c4).1 (zi_ix_ok c4).2 (fun _ _ => ?_)
            refine zv_con hB zd44_46 rfl ?_
            refine zv_ceq hB zd44_48 rfl (fun hc9 => ?_) (fun hc9 => ?_)
            · rw [if_pos hc9] at h
              refine zv_ald hB zd44_65 rfl rfl rfl ?_
              refine zv_getr hB zd44_66 rfl ?_
              refine zv_ald hB zd44_69 rfl rfl rfl ?_
              refine zv_getf hB zd44_70 rfl rfl (fun _ _ => ?_)
              refine zv_iald hB zd44_73 rfl rfl (zi_ix_ok c4).1 (zi_ix_ok c4).2 (fun _ _ => ?_)
              refine zv_con hB zd44_74 rfl ?_
              refine zv_cne hB zd44_76 rfl (fun _ => ?_) (fun hc => absurd hc (by omega))
              refine zv_ald hB zd44_84 rfl rfl rfl ?_
              refine zv_getr hB zd44_85 rfl ?_
              refine zv_ald hB zd44_88 rfl rfl rfl ?_
              refine zv_getf hB zd44_89 rfl rfl (fun _ _ => ?_)
              refine zv_iald hB zd44_92 rfl rfl (zi_ix_ok c4).1 (zi_ix_ok c4).2 (fun _ _ => ?_)
              refine zv_con hB zd44_93 rfl ?_
              refine zv_cne hB zd44_95 rfl (fun hc => absurd hc (by omega)) (fun _ => ?_)
              refine zv_con hB zd44_98 rfl ?_
              refine zv_goto hB zd44_100 rfl ?_
              refine zv_ist hB zd44_105 rfl rfl rfl ?_
              refine zv_ald hB zd44_106 rfl rfl rfl ?_
              refine zv_dup hB zd44_107 rfl ?_
              refine zv_getf hB zd44_108 rfl rfl (fun _ _ => ?_)
              refine zv_con hB zd44_111 rfl ?_
              refine zv_addw hB zd44_112 ?_
              refine zv_putf hB zd44_113 rfl rfl (fun h => by cases h) rfl ?_
              refine zv_ald hB zd44_116 rfl rfl rfl ?_
              refine zv_ild hB zd44_117 rfl rfl ?_
              obtain ⟨r12, hr12, h⟩ := zi_bind h
              refine zv_cv hB (show zv_Fn _ _ _ zy_LawReader_readSum _ _ [.inr 0, .inl x1] [.inl f0, .inl (zi_w (f1 + 1)), .inl f2, .inr 2, .inl f4] [g0, g1, g2] none [.inl r12.1, .inl r12.2.1, .inl f2, .inr 2, .inl r12.2.2.1] [g0, r12.2.2.2.1, r12.2.2.2.2] from ih2 _ _ _ _ _ _ _ _ r12 hr12) zd44_118 zxt45 rfl (by show 6 + dp + 1 ≤ 6 + (dp + 1); omega) (by show 8 + (4 + 11) + 60 * (6 + dp) ≤ 60 * (6 + (dp + 1)); omega) rfl ?_
              refine zv_ald hB zd44_121 rfl rfl rfl ?_
              refine zv_getq hB zd44_122 rfl rfl rfl ?_
              refine zv_ild hB zd44_125 rfl rfl ?_
              refine zv_con hB zd44_126 rfl ?_
              obtain ⟨r13, hr13, h⟩ := zi_bind h
              refine zv_cv hB (zv_emq (va2 := [.inr 2, .inl 8, .inl 0]) (F := [.inl r12.1, .inl r12.2.1, .inl f2, .inr 2, .inl r12.2.2.1]) (F' := [.inl r12.1, .inl r12.2.1, .inl f2, .inr 2, .inl r13.2.1]) (G := [g0, r12.2.2.2.1, r12.2.2.2.2]) (G' := [g0, r13.2.2.1, r13.2.2.2]) (ρ := [2, 3, 4]) (φ := [4]) (ψ := [1, 2]) [none, none, none, none, some 0] [none, some 0, some 1] zyw_Law_addStep zyw_LawReader_readSum zye_LawReader_readSum (by decide +kernel) (zt_Law_addStep hr13) ⟨⟨_, rfl, fun _ => rfl⟩, trivial⟩ ⟨rfl, rfl, trivial⟩ rfl rfl rfl rfl rfl rfl rfl) zd44_127 zxt49 rfl (by show 0 + 1 ≤ 6 + (dp + 1); omega) (by show 8 + (3 + 11) + 60 * (0) ≤ 60 * (6 + (dp + 1)); omega) rfl ?_
              refine zv_pop hB zd44_130 rfl ?_
              refine zv_goto hB zd44_131 rfl ?_
              refine zv_wk hB (L' := [.inr 0, .inl x1, .inr 1000]) (F' := [.inl r12.1, .inl r12.2.1, .inl f2, .inr 2, .inl r13.2.1]) ⟨fun _ => rfl, fun _ => rfl, fun (h : zv_is (.inr 1000)) => (Nat.lt_irrefl 1000 h).elim, trivial⟩ ⟨fun _ => rfl, fun _ => rfl, fun _ => rfl, fun _ => rfl, fun _ => rfl, trivial⟩ ?_
              exact ih _ _ _ _ _ _ q h hK
            · rw [if_neg hc9] at h
              refine zv_ald hB zd44_51 rfl rfl rfl ?_
              refine zv_getr hB zd44_52 rfl ?_
              refine zv_ald hB zd44_55 rfl rfl rfl ?_
              refine zv_getf hB zd44_56 rfl rfl (fun _ _ => ?_)
              refine zv_iald hB zd44_59 rfl rfl (zi_ix_ok c4).1 (zi_ix_ok c4).2 (fun _ _ => ?_)
              refine zv_con hB zd44_60 rfl ?_
              refine zv_cne hB zd44_62 rfl (fun hc14 => ?_) (fun hc14 => ?_)
              · rw [if_neg hc14] at h
                have hq := Option.some.inj h
                subst hq
                refine zv_wk hB (L' := [.inr 1000, .inr 1000, .inr 1000]) (F' := [.inl f0, .inl f1, .inl f2, .inr 2, .inl f4]) ⟨fun (h : zv_is (.inr 1000)) => (Nat.lt_irrefl 1000 h).elim, fun (h : zv_is (.inr 1000)) => (Nat.lt_irrefl 1000 h).elim, fun (h : zv_is (.inr 1000)) => (Nat.lt_irrefl 1000 h).elim, trivial⟩ ⟨fun _ => rfl, fun _ => rfl, fun _ => rfl, fun _ => rfl, fun _ => rfl, trivial⟩ ?_
                exact hK
              · rw [if_pos hc14] at h
                refine zv_ald hB zd44_65 rfl rfl rfl ?_
                refine zv_getr hB zd44_66 rfl ?_
                refine zv_ald hB zd44_69 rfl rfl rfl ?_
                refine zv_getf hB zd44_70 rfl rfl (fun _ _ => ?_)
                refine zv_iald hB zd44_73 rfl rfl (zi_ix_ok c4).1 (zi_ix_ok c4).2 (fun _ _ => ?_)
                refine zv_con hB zd44_74 rfl ?_
                refine zv_cne hB zd44_76 rfl (fun _ => ?_) (fun hc => absurd hc (by omega))
                refine zv_ald hB zd44_84 rfl rfl rfl ?_
                refine zv_getr hB zd44_85 rfl ?_
                refine zv_ald hB zd44_88 rfl rfl rfl ?_
                refine zv_getf hB zd44_89 rfl rfl (fun _ _ => ?_)
                refine zv_iald hB zd44_92 rfl rfl (zi_ix_ok c4).1 (zi_ix_ok c4).2 (fun _ _ => ?_)
                refine zv_con hB zd44_93 rfl ?_
                refine zv_cne hB zd44_95 rfl (fun _ => ?_) (fun hc => absurd hc (by omega))
                refine zv_con hB zd44_103 rfl ?_
                refine zv_ist hB zd44_105 rfl rfl rfl ?_
                refine zv_ald hB zd44_106 rfl rfl rfl ?_
                refine zv_dup hB zd44_107 rfl ?_
                refine zv_getf hB zd44_108 rfl rfl (fun _ _ => ?_)
                refine zv_con hB zd44_111 rfl ?_
                refine zv_addw hB zd44_112 ?_
                refine zv_putf hB zd44_113 rfl rfl (fun h => by cases h) rfl ?_
                refine zv_ald hB zd44_116 rfl rfl rfl ?_
                refine zv_ild hB zd44_117 rfl rfl ?_
                obtain ⟨r17, hr17, h⟩ := zi_bind h
                refine zv_cv hB (show zv_Fn _ _ _ zy_LawReader_readSum _ _ [.inr 0, .inl x1] [.inl f0, .inl (zi_w (f1 + 1)), .inl f2, .inr 2, .inl f4] [g0, g1, g2] none [.inl r17.1, .inl r17.2.1, .inl f2, .inr 2, .inl r17.2.2.1] [g0, r17.2.2.2.1, r17.2.2.2.2] from ih2 _ _ _ _ _ _ _ _ r17 hr17) zd44_118 zxt45 rfl (by show 6 + dp + 1 ≤ 6 + (dp + 1); omega) (by show 8 + (4 + 11) + 60 * (6 + dp) ≤ 60 * (6 + (dp + 1)); omega) rfl ?_
                refine zv_ald hB zd44_121 rfl rfl rfl ?_
                refine zv_getq hB zd44_122 rfl rfl rfl ?_
                refine zv_ild hB zd44_125 rfl rfl ?_
                refine zv_con hB zd44_126 rfl ?_
                obtain ⟨r18, hr18, h⟩ := zi_bind h
                refine zv_cv hB (zv_emq (va2 := [.inr 2, .inl 9, .inl 0]) (F := [.inl r17.1, .inl r17.2.1, .inl f2, .inr 2, .inl r17.2.2.1]) (F' := [.inl r17.1, .inl r17.2.1, .inl f2, .inr 2, .inl r18.2.1]) (G := [g0, r17.2.2.2.1, r17.2.2.2.2]) (G' := [g0, r18.2.2.1, r18.2.2.2]) (ρ := [2, 3, 4]) (φ := [4]) (ψ := [1, 2]) [none, none, none, none, some 0] [none, some 0, some 1] zyw_Law_addStep zyw_LawReader_readSum zye_LawReader_readSum (by decide +kernel) (zt_Law_addStep hr18) ⟨⟨_, rfl, fun _ => rfl⟩, trivial⟩ ⟨rfl, rfl, trivial⟩ rfl rfl rfl rfl rfl rfl rfl) zd44_127 zxt49 rfl (by show 0 + 1 ≤ 6 + (dp + 1); omega) (by show 8 + (3 + 11) + 60 * (0) ≤ 60 * (6 + (dp + 1)); omega) rfl ?_
                refine zv_pop hB zd44_130 rfl ?_
                refine zv_goto hB zd44_131 rfl ?_
                refine zv_wk hB (L' := [.inr 0, .inl x1, .inr 1000]) (F' := [.inl r17.1, .inl r17.2.1, .inl f2, .inr 2, .inl r18.2.1]) ⟨fun _ => rfl, fun _ => rfl, fun (h : zv_is (.inr 1000)) => (Nat.lt_irrefl 1000 h).elim, trivial⟩ ⟨fun _ => rfl, fun _ => rfl, fun _ => rfl, fun _ => rfl, fun _ => rfl, trivial⟩ ?_
                exact ih _ _ _ _ _ _ q h hK
  unfold zm_LawReader_readTerm at h
  refine zv_ald hB zd44_0 rfl rfl rfl ?_
  refine zv_ild hB zd44_1 rfl rfl ?_
  obtain ⟨r1, hr1, h⟩ := zi_bind h
  refine zv_cv hB (show zv_Fn _ _ _ zy_LawReader_readSum _ _ [.inr 0, .inl x1] [.inl f0, .inl f1, .inl f2, .inr 2, .inl f4] [g0, g1, g2] none [.inl r1.1, .inl r1.2.1, .inl f2, .inr 2, .inl r1.2.2.1] [g0, r1.2.2.2.1, r1.2.2.2.2] from ih2 _ _ _ _ _ _ _ _ r1 hr1) zd44_2 zxt45 rfl (by show 6 + dp + 1 ≤ 6 + (dp + 1); omega) (by show 8 + (4 + 11) + 60 * (6 + dp) ≤ 60 * (6 + (dp + 1)); omega) rfl ?_
  obtain ⟨q19, hq19, h⟩ := zi_bind h
  refine l0 _ _ _ _ _ _ _ q19 hq19 ?_
  show good 134 [.inr 1000, .inr 1000, .inr 1000] [] [.inl q19.1, .inl q19.2.1, .inl f2, .inr 2, .inl q19.2.2.1] [g0, q19.2.2.2.1, q19.2.2.2.2]
  have hw := Option.some.inj h
  subst hw
  exact hvret _ _ _ _ zd44_134 trivial ⟨rfl, rfl, rfl⟩
/-! LawReader_readFactor (I)V -/
def zm_LawReader_readFactor (rc : Nat → Int → Int → Int → Int → Int → (Int → Int) → (Int → Int) → (Int → Int) → Option (Int × Int × Int × (Int → Int) × (Int → Int))) (x1 : Int) (f0 : Int) (f1 : Int) (f2 : Int) (f4 : Int) (g0 : (Int → Int)) (g1 : (Int → Int)) (g2 : (Int → Int)) : Option (Int × Int × Int × (Int → Int) × (Int → Int)) := if f0 = 0 then ((zf_LawReader_peek f1 f2 g0).bind fun r2 => (if r2 = 91 then (if x1 < 6 then ((rc 0 (zi_w (x1 + 1)) f0 (zi_w (f1 + 1)) f2 f4 g0 g1 g2).bind fun r14 => ((zf_LawReader_skip 93 r14.1 r14.2.1 f2 g0).bind fun r15 => (some (r15.1, r15.2, r14.2.2.1, r14.2.2.2.1, r14.2.2.2.2)))) else ((zf_LawReader_fail 5 f0 f1).bind fun r16 => (some (r16, f1, f4, g1, g2)))) else ((zf_LawReader_isDigit r2).bind fun r4 => (if r4 = 0 then (if r2 = (-1) then ((zf_LawReader_fail 1 f0 f1).bind fun r11 => (some (r11, f1, f4, g1, g2))) else (if (zi_letter (zi_ch r2)) = (-1) then ((zf_LawReader_fail 1 f0 f1).bind fun r9 => (some (r9, f1, f4, g1, g2))) else ((zf_Law_addStep 1 (zi_letter (zi_ch r2)) f4 g1 g2).bind fun r8 => (some (f0, (zi_w (f1 + 1)), r8.2.1, r8.2.2.1, r8.2.2.2))))) else ((zf_LawReader_readNumber f1 f2 f4 f0 g0 g1 g2).bind fun r12 => (some (r12.2.2.1, r12.1, r12.2.1, r12.2.2.2.1, r12.2.2.2.2))))))) else (some (f0, f1, f4, g1, g2))
theorem zd45_0 : decode zxm45.2.1 0 = .ok (.aload_n 0, 1) := by decide +kernel
theorem zd45_1 : decode zxm45.2.1 1 = .ok (.getfield 18, 3) := by decide +kernel
theorem zd45_4 : decode zxm45.2.1 4 = .ok (.ifCond .eq 4, 3) := by decide +kernel
theorem zd45_7 : decode zxm45.2.1 7 = .ok (.return_, 1) := by decide +kernel
theorem zd45_8 : decode zxm45.2.1 8 = .ok (.aload_n 0, 1) := by decide +kernel
theorem zd45_9 : decode zxm45.2.1 9 = .ok (.invokevirtual 53, 3) := by decide +kernel
theorem zd45_12 : decode zxm45.2.1 12 = .ok (.istore_n 2, 1) := by decide +kernel
theorem zd45_13 : decode zxm45.2.1 13 = .ok (.iload_n 2, 1) := by decide +kernel
theorem zd45_14 : decode zxm45.2.1 14 = .ok (.bipush 91, 2) := by decide +kernel
theorem zd45_16 : decode zxm45.2.1 16 = .ok (.if_icmp .ne 41, 3) := by decide +kernel
theorem zd45_19 : decode zxm45.2.1 19 = .ok (.iload_n 1, 1) := by decide +kernel
theorem zd45_20 : decode zxm45.2.1 20 = .ok (.bipush 6, 2) := by decide +kernel
theorem zd45_22 : decode zxm45.2.1 22 = .ok (.if_icmp .lt 9, 3) := by decide +kernel
theorem zd45_25 : decode zxm45.2.1 25 = .ok (.aload_n 0, 1) := by decide +kernel
theorem zd45_26 : decode zxm45.2.1 26 = .ok (.iconst 5, 1) := by decide +kernel
theorem zd45_27 : decode zxm45.2.1 27 = .ok (.invokevirtual 57, 3) := by decide +kernel
theorem zd45_30 : decode zxm45.2.1 30 = .ok (.return_, 1) := by decide +kernel
theorem zd45_31 : decode zxm45.2.1 31 = .ok (.aload_n 0, 1) := by decide +kernel
theorem zd45_32 : decode zxm45.2.1 32 = .ok (.dup, 1) := by decide +kernel
theorem zd45_33 : decode zxm45.2.1 33 = .ok (.getfield 15, 3) := by decide +kernel
theorem zd45_36 : decode zxm45.2.1 36 = .ok (.iconst 1, 1) := by decide +kernel
theorem zd45_37 : decode zxm45.2.1 37 = .ok (.iadd, 1) := by decide +kernel
theorem zd45_38 : decode zxm45.2.1 38 = .ok (.putfield 15, 3) := by decide +kernel
theorem zd45_41 : decode zxm45.2.1 41 = .ok (.aload_n 0, 1) := by decide +kernel
theorem zd45_42 : decode zxm45.2.1 42 = .ok (.iload_n 1, 1) := by decide +kernel
theorem zd45_43 : decode zxm45.2.1 43 = .ok (.iconst 1, 1) := by decide +kernel
theorem zd45_44 : decode zxm45.2.1 44 = .ok (.iadd, 1) := by decide +kernel
theorem zd45_45 : decode zxm45.2.1 45 = .ok (.invokevirtual 63, 3) := by decide +kernel
theorem zd45_48 : decode zxm45.2.1 48 = .ok (.aload_n 0, 1) := by decide +kernel
theorem zd45_49 : decode zxm45.2.1 49 = .ok (.bipush 93, 2) := by decide +kernel
theorem zd45_51 : decode zxm45.2.1 51 = .ok (.invokevirtual 43, 3) := by decide +kernel
theorem zd45_54 : decode zxm45.2.1 54 = .ok (.goto 65, 3) := by decide +kernel
theorem zd45_57 : decode zxm45.2.1 57 = .ok (.iload_n 2, 1) := by decide +kernel
theorem zd45_58 : decode zxm45.2.1 58 = .ok (.invokestatic 94, 3) := by decide +kernel
theorem zd45_61 : decode zxm45.2.1 61 = .ok (.ifCond .eq 10, 3) := by decide +kernel
theorem zd45_64 : decode zxm45.2.1 64 = .ok (.aload_n 0, 1) := by decide +kernel
theorem zd45_65 : decode zxm45.2.1 65 = .ok (.invokevirtual 98, 3) := by decide +kernel
theorem zd45_68 : decode zxm45.2.1 68 = .ok (.goto 51, 3) := by decide +kernel
theorem zd45_71 : decode zxm45.2.1 71 = .ok (.iload_n 2, 1) := by decide +kernel
theorem zd45_72 : decode zxm45.2.1 72 = .ok (.iconst (-1), 1) := by decide +kernel
theorem zd45_73 : decode zxm45.2.1 73 = .ok (.if_icmp .ne 7, 3) := by decide +kernel
theorem zd45_76 : decode zxm45.2.1 76 = .ok (.iconst (-1), 1) := by decide +kernel
theorem zd45_77 : decode zxm45.2.1 77 = .ok (.goto 10, 3) := by decide +kernel
theorem zd45_80 : decode zxm45.2.1 80 = .ok (.ldc 101, 2) := by decide +kernel
theorem zd45_82 : decode zxm45.2.1 82 = .ok (.iload_n 2, 1) := by decide +kernel
theorem zd45_83 : decode zxm45.2.1 83 = .ok (.i2c, 1) := by decide +kernel
theorem zd45_84 : decode zxm45.2.1 84 = .ok (.invokevirtual 103, 3) := by decide +kernel
theorem zd45_87 : decode zxm45.2.1 87 = .ok (.istore_n 3, 1) := by decide +kernel
theorem zd45_88 : decode zxm45.2.1 88 = .ok (.iload_n 3, 1) := by decide +kernel
theorem zd45_89 : decode zxm45.2.1 89 = .ok (.iconst (-1), 1) := by decide +kernel
theorem zd45_90 : decode zxm45.2.1 90 = .ok (.if_icmp .ne 9, 3) := by decide +kernel
theorem zd45_93 : decode zxm45.2.1 93 = .ok (.aload_n 0, 1) := by decide +kernel
theorem zd45_94 : decode zxm45.2.1 94 = .ok (.iconst 1, 1) := by decide +kernel
theorem zd45_95 : decode zxm45.2.1 95 = .ok (.invokevirtual 57, 3) := by decide +kernel
theorem zd45_98 : decode zxm45.2.1 98 = .ok (.return_, 1) := by decide +kernel
theorem zd45_99 : decode zxm45.2.1 99 = .ok (.aload_n 0, 1) := by decide +kernel
theorem zd45_100 : decode zxm45.2.1 100 = .ok (.dup, 1) := by decide +kernel
theorem zd45_101 : decode zxm45.2.1 101 = .ok (.getfield 15, 3) := by decide +kernel
theorem zd45_104 : decode zxm45.2.1 104 = .ok (.iconst 1, 1) := by decide +kernel
theorem zd45_105 : decode zxm45.2.1 105 = .ok (.iadd, 1) := by decide +kernel
theorem zd45_106 : decode zxm45.2.1 106 = .ok (.putfield 15, 3) := by decide +kernel
theorem zd45_109 : decode zxm45.2.1 109 = .ok (.aload_n 0, 1) := by decide +kernel
theorem zd45_110 : decode zxm45.2.1 110 = .ok (.getfield 25, 3) := by decide +kernel
theorem zd45_113 : decode zxm45.2.1 113 = .ok (.iconst 1, 1) := by decide +kernel
theorem zd45_114 : decode zxm45.2.1 114 = .ok (.iload_n 3, 1) := by decide +kernel
theorem zd45_115 : decode zxm45.2.1 115 = .ok (.invokevirtual 76, 3) := by decide +kernel
theorem zd45_118 : decode zxm45.2.1 118 = .ok (.pop, 1) := by decide +kernel
theorem zd45_119 : decode zxm45.2.1 119 = .ok (.return_, 1) := by decide +kernel
theorem zts_LawReader_readFactor {dp : Nat} {rc : Nat → Int → Int → Int → Int → Int → (Int → Int) → (Int → Int) → (Int → Int) → Option (Int × Int × Int × (Int → Int) × (Int → Int))} (ih0 : ∀ (x1 : Int) (f0 : Int) (f1 : Int) (f2 : Int) (f4 : Int) (g0 : (Int → Int)) (g1 : (Int → Int)) (g2 : (Int → Int)) (o : Int × Int × Int × (Int → Int) × (Int → Int)), rc 0 x1 f0 f1 f2 f4 g0 g1 g2 = some o → zv_Fn z_TB z_cl z_KX zy_LawReader_readSum zxm43 (6 + dp, 60 * (6 + dp)) [.inr 0, .inl x1] [.inl f0, .inl f1, .inl f2, .inr 2, .inl f4] [g0, g1, g2] none [.inl o.1, .inl o.2.1, .inl f2, .inr 2, .inl o.2.2.1] [g0, o.2.2.2.1, o.2.2.2.2]) (ih1 : ∀ (x1 : Int) (f0 : Int) (f1 : Int) (f2 : Int) (f4 : Int) (g0 : (Int → Int)) (g1 : (Int → Int)) (g2 : (Int → Int)) (o : Int × Int × Int × (Int → Int) × (Int → Int)), rc 1 x1 f0 f1 f2 f4 g0 g1 g2 = some o → zv_Fn z_TB z_cl z_KX zy_LawReader_readSum zxm44 (6 + dp, 60 * (6 + dp)) [.inr 0, .inl x1] [.inl f0, .inl f1, .inl f2, .inr 2, .inl f4] [g0, g1, g2] none [.inl o.1, .inl o.2.1, .inl f2, .inr 2, .inl o.2.2.1] [g0, o.2.2.2.1, o.2.2.2.2]) (ih2 : ∀ (x1 : Int) (f0 : Int) (f1 : Int) (f2 : Int) (f4 : Int) (g0 : (Int → Int)) (g1 : (Int → Int)) (g2 : (Int → Int)) (o : Int × Int × Int × (Int → Int) × (Int → Int)), rc 2 x1 f0 f1 f2 f4 g0 g1 g2 = some o → zv_Fn z_TB z_cl z_KX zy_LawReader_readSum zxm45 (6 + dp, 60 * (6 + dp)) [.inr 0, .inl x1] [.inl f0, .inl f1, .inl f2, .inr 2, .inl f4] [g0, g1, g2] none [.inl o.1, .inl o.2.1, .inl f2, .inr 2, .inl o.2.2.1] [g0, o.2.2.2.1, o.2.2.2.2]) {x1 : Int} {f0 : Int} {f1 : Int} {f2 : Int} {f4 : Int} {g0 : (Int → Int)} {g1 : (Int → Int)} {g2 : (Int → Int)} {o : Int × Int × Int × (Int → Int) × (Int → Int)} (h : zm_LawReader_readFactor rc x1 f0 f1 f2 f4 g0 g1 g2 = some o) : zv_Fn z_TB z_cl z_KX zy_LawReader_readSum zxm45 (6 + (dp + 1), 60 * (6 + (dp + 1))) [.inr 0, .inl x1] [.inl f0, .inl f1, .inl f2, .inr 2, .inl f4] [g0, g1, g2] none [.inl o.1, .inl o.2.1, .inl f2, .inr 2, .inl o.2.2.1] [g0, o.2.2.2.1, o.2.2.2.2] := zv_meth (K := (z_KF3, z_KC3, z_KL3, z_KT3, [], [], [], none)) (FT := z_FT) (MT := z_MT) (n := 2) zxp45 (z_ks3 _ (fun _ h => List.mem_cons_of_mem _ h) _ _ _ _ (fun j r h _ => by cases h)) (fun _ _ => zs_KX_p) zyw_LawReader_readSum (fun va F G h => by obtain ⟨rfl, _⟩ := h; rfl) (fun va F G h => by obtain ⟨rfl, _⟩ := h; rfl) rfl fun good va F G hB hret hvret hP => by
  obtain ⟨rfl, rfl, rfl⟩ := hP
  unfold zm_LawReader_readFactor at h
  refine zv_ald hB zd45_0 rfl rfl rfl ?_
  refine zv_getf hB zd45_1 rfl rfl (fun _ _ => ?_)
  refine zv_zeq hB zd45_4 rfl (fun hc1 => ?_) (fun hc1 => ?_)
  · rw [if_pos hc1] at h
    refine zv_ald hB zd45_8 rfl rfl rfl ?_
    obtain ⟨r2, hr2, h⟩ := zi_bind h
    refine zv_cv hB (zv_emq (va2 := [.inr 0]) (F := [.inl f0, .inl f1, .inl f2, .inr 2, .inl f4]) (F' := [.inl f0, .inl f1, .inl f2, .inr 2, .inl f4]) (G := [g0, g1, g2]) (G' := [g0, g1, g2]) (ρ := [0, 1]) (φ := [1, 2]) (ψ := [0]) [none, some 0, some 1, none, none] [some 0, none, none] zyw_LawReader_peek zyw_LawReader_readSum zye_LawReader_readSum (by decide +kernel) (zt_LawReader_peek hr2) ⟨⟨_, rfl, fun _ => rfl⟩, ⟨_, rfl, fun _ => rfl⟩, trivial⟩ ⟨rfl, trivial⟩ rfl rfl rfl rfl rfl rfl rfl) zd45_9 zxt40 rfl (by show 0 + 1 ≤ 6 + (dp + 1); omega) (by show 8 + (1 + 11) + 60 * (0) ≤ 60 * (6 + (dp + 1)); omega) rfl ?_
    refine zv_ist hB zd45_12 rfl rfl rfl ?_
    refine zv_ild hB zd45_13 rfl rfl ?_
    refine zv_con hB zd45_14 rfl ?_
    refine zv_cne hB zd45_16 rfl (fun hc3 => ?_) (fun hc3 => ?_)
    · rw [if_neg hc3] at h
      refine zv_ild hB zd45_57 rfl rfl ?_
      obtain ⟨r4, hr4, h⟩ := zi_bind h
      refine zv_cs hB (zv_emq (va2 := [.inl r2]) (F := [.inl f0, .inl f1, .inl f2, .inr 2, .inl f4]) (F' := [.inl f0, .inl f1, .inl f2, .inr 2, .inl f4]) (G := [g0, g1, g2]) (G' := [g0, g1, g2]) (ρ := []) (φ := []) (ψ := []) [none, none, none, none, none] [none, none, none] zyw_LawReader_isDigit zyw_LawReader_readSum zye_LawReader_readSum (by decide +kernel) (zt_LawReader_isDigit hr4) trivial trivial rfl rfl rfl rfl rfl rfl rfl) zd45_58 zxt47 rfl (by show 0 + 1 ≤ 6 + (dp + 1); omega) (by show 8 + (1 + 11) + 60 * (0) ≤ 60 * (6 + (dp + 1)); omega) rfl ?_
      refine zv_zeq hB zd45_61 rfl (fun hc5 => ?_) (fun hc5 => ?_)
      · rw [if_pos hc5] at h
        refine zv_ild hB zd45_71 rfl rfl ?_
        refine zv_con hB zd45_72 rfl ?_
        refine zv_cne hB zd45_73 rfl (fun hc6 => ?_) (fun hc6 => ?_)
        · rw [if_neg hc6] at h
          refine zv_ldcs hB zd45_80 ?_
          refine zv_ild hB zd45_82 rfl rfl ?_
          refine zv_i2c hB zd45_83 ?_
          refine zv_letter hB zyw_LawReader_readSum rfl rfl zd45_84 (by show 6 ≤ 6 + (dp + 1); omega) (by show 360 ≤ 60 * (6 + (dp + 1)); omega) ?_
          refine zv_ist hB zd45_87 rfl rfl rfl ?_
          refine zv_ild hB zd45_88 rfl rfl ?_
          refine zv_con hB zd45_89 rfl ?_
          refine zv_cne hB zd45_90 rfl (fun hc7 => ?_) (fun hc7 => ?_)
          · rw [if_neg hc7] at h
            refine zv_ald hB zd45_99 rfl rfl rfl ?_
            refine zv_dup hB zd45_100 rfl ?_
            refine zv_getf hB zd45_101 rfl rfl (fun _ _ => ?_)
            refine zv_con hB zd45_104 rfl ?_
            refine zv_addw hB zd45_105 ?_
            refine zv_putf hB zd45_106 rfl rfl (fun h => by cases h) rfl ?_
            refine zv_ald hB zd45_109 rfl rfl rfl ?_
            refine zv_getq hB zd45_110 rfl rfl rfl ?_
            refine zv_con hB zd45_113 rfl ?_
            refine zv_ild hB zd45_114 rfl rfl ?_
            obtain ⟨r8, hr8, h⟩ := zi_bind h
            refine zv_cv hB (zv_emq (va2 := [.inr 2, .inl 1, .inl (zi_letter (zi_ch r2))]) (F := [.inl f0, .inl (zi_w (f1 + 1)), .inl f2, .inr 2, .inl f4]) (F' := [.inl f0, .inl (zi_w (f1 + 1)), .inl f2, .inr 2, .inl r8.2.1]) (G := [g0, g1, g2]) (G' := [g0, r8.2.2.1, r8.2.2.2]) (ρ := [2, 3, 4]) (φ := [4]) (ψ := [1, 2]) [none, none, none, none, some 0] [none, some 0, some 1] zyw_Law_addStep zyw_LawReader_readSum zye_LawReader_readSum (by decide +kernel) (zt_Law_addStep hr8) ⟨⟨_, rfl, fun _ => rfl⟩, trivial⟩ ⟨rfl, rfl, trivial⟩ rfl rfl rfl rfl rfl rfl rfl) zd45_115 zxt49 rfl (by show 0 + 1 ≤ 6 + (dp + 1); omega) (by show 8 + (3 + 11) + 60 * (0) ≤ 60 * (6 + (dp + 1)); omega) rfl ?_
            refine zv_pop hB zd45_118 rfl ?_
            have hw := Option.some.inj h
            subst hw
            exact hvret _ _ _ _ zd45_119 trivial ⟨rfl, rfl, rfl⟩
          · rw [if_pos hc7] at h
            refine zv_ald hB zd45_93 rfl rfl rfl ?_
            refine zv_con hB zd45_94 rfl ?_
            obtain ⟨r9, hr9, h⟩ := zi_bind h
            refine zv_cv hB (zv_emq (va2 := [.inr 0, .inl 1]) (F := [.inl f0, .inl f1, .inl f2, .inr 2, .inl f4]) (F' := [.inl r9, .inl f1, .inl f2, .inr 2, .inl f4]) (G := [g0, g1, g2]) (G' := [g0, g1, g2]) (ρ := [0]) (φ := [0, 1]) (ψ := []) [some 0, some 1, none, none, none] [none, none, none] zyw_LawReader_fail zyw_LawReader_readSum zye_LawReader_readSum (by decide +kernel) (zt_LawReader_fail hr9) ⟨⟨_, rfl, fun _ => rfl⟩, ⟨_, rfl, fun _ => rfl⟩, trivial⟩ trivial rfl rfl rfl rfl rfl rfl rfl) zd45_95 zxt41 rfl (by show 1 + 1 ≤ 6 + (dp + 1); omega) (by show 8 + (2 + 11) + 60 * (1) ≤ 60 * (6 + (dp + 1)); omega) rfl ?_
            have hw := Option.some.inj h
            subst hw
            exact hvret _ _ _ _ zd45_98 trivial ⟨rfl, rfl, rfl⟩
        · rw [if_pos hc6] at h
          refine zv_con hB zd45_76 rfl ?_
          refine zv_goto hB zd45_77 rfl ?_
          refine zv_ist hB zd45_87 rfl rfl rfl ?_
          refine zv_ild hB zd45_88 rfl rfl ?_
          refine zv_con hB zd45_89 rfl ?_
          refine zv_cne hB zd45_90 rfl (fun hc => absurd hc (by decide)) (fun _ => ?_)
          refine zv_ald hB zd45_93 rfl rfl rfl ?_
          refine zv_con hB zd45_94 rfl ?_
          obtain ⟨r11, hr11, h⟩ := zi_bind h
          refine zv_cv hB (zv_emq (va2 := [.inr 0, .inl 1]) (F := [.inl f0, .inl f1, .inl f2, .inr 2, .inl f4]) (F' := [.inl r11, .inl f1, .inl f2, .inr 2, .inl f4]) (G := [g0, g1, g2]) (G' := [g0, g1, g2]) (ρ := [0]) (φ := [0, 1]) (ψ := []) [some 0, some 1, none, none, none] [none, none, none] zyw_LawReader_fail zyw_LawReader_readSum zye_LawReader_readSum (by decide +kernel) (zt_LawReader_fail hr11) ⟨⟨_, rfl, fun _ => rfl⟩, ⟨_, rfl, fun _ => rfl⟩, trivial⟩ trivial rfl rfl rfl rfl rfl rfl rfl) zd45_95 zxt41 rfl (by show 1 + 1 ≤ 6 + (dp + 1); omega) (by show 8 + (2 + 11) + 60 * (1) ≤ 60 * (6 + (dp + 1)); omega) rfl ?_
          have hw := Option.some.inj h
          subst hw
          exact hvret _ _ _ _ zd45_98 trivial ⟨rfl, rfl, rfl⟩
      · rw [if_neg hc5] at h
        refine zv_ald hB zd45_64 rfl rfl rfl ?_
        obtain ⟨r12, hr12, h⟩ := zi_bind h
        refine zv_cv hB (zv_emq (va2 := [.inr 0]) (F := [.inl f0, .inl f1, .inl f2, .inr 2, .inl f4]) (F' := [.inl r12.2.2.1, .inl r12.1, .inl f2, .inr 2, .inl r12.2.1]) (G := [g0, g1, g2]) (G' := [g0, r12.2.2.2.1, r12.2.2.2.2]) (ρ := [0, 1, 2, 3, 4]) (φ := [1, 2, 3, 4, 0]) (ψ := [0, 1, 2]) [some 4, some 0, some 1, some 2, some 3] [some 0, some 1, some 2] zyw_LawReader_readNumber zyw_LawReader_readSum zye_LawReader_readSum (by decide +kernel) (zt_LawReader_readNumber hr12) ⟨⟨_, rfl, fun _ => rfl⟩, ⟨_, rfl, fun _ => rfl⟩, ⟨_, rfl, fun _ => rfl⟩, ⟨_, rfl, fun _ => rfl⟩, ⟨_, rfl, fun _ => rfl⟩, trivial⟩ ⟨rfl, rfl, rfl, trivial⟩ rfl rfl rfl rfl rfl rfl rfl) zd45_65 zxt48 rfl (by show 2 + 1 ≤ 6 + (dp + 1); omega) (by show 8 + (3 + 11) + 60 * (2) ≤ 60 * (6 + (dp + 1)); omega) rfl ?_
        refine zv_goto hB zd45_68 rfl ?_
        have hw := Option.some.inj h
        subst hw
        exact hvret _ _ _ _ zd45_119 trivial ⟨rfl, rfl, rfl⟩
    · rw [if_pos hc3] at h
      refine zv_ild hB zd45_19 rfl rfl ?_
      refine zv_con hB zd45_20 rfl ?_
      refine zv_clt hB zd45_22 rfl (fun hc13 => ?_) (fun hc13 => ?_)
      · rw [if_pos hc13] at h
        refine zv_ald hB zd45_31 rfl rfl rfl ?_
        refine zv_dup hB zd45_32 rfl ?_
        refine zv_getf hB zd45_33 rfl rfl (fun _ _ => ?_)
        refine zv_con hB zd45_36 rfl ?_
        refine zv_addw hB zd45_37 ?_
        refine zv_putf hB zd45_38 rfl rfl (fun h => by cases h) rfl ?_
        refine zv_ald hB zd45_41 rfl rfl rfl ?_
        refine zv_ild hB zd45_42 rfl rfl ?_
        refine zv_con hB zd45_43 rfl ?_
        refine zv_addw hB zd45_44 ?_
        obtain ⟨r14, hr14, h⟩ := zi_bind h
        refine zv_cv hB (show zv_Fn _ _ _ zy_LawReader_readSum _ _ [.inr 0, .inl (zi_w (x1 + 1))] [.inl f0, .inl (zi_w (f1 + 1)), .inl f2, .inr 2, .inl f4] [g0, g1, g2] none [.inl r14.1, .inl r14.2.1, .inl f2, .inr 2, .inl r14.2.2.1] [g0, r14.2.2.2.1, r14.2.2.2.2] from ih0 _ _ _ _ _ _ _ _ r14 hr14) zd45_45 zxt43 rfl (by show 6 + dp + 1 ≤ 6 + (dp + 1); omega) (by show 8 + (3 + 11) + 60 * (6 + dp) ≤ 60 * (6 + (dp + 1)); omega) rfl ?_
        refine zv_ald hB zd45_48 rfl rfl rfl ?_
        refine zv_con hB zd45_49 rfl ?_
        obtain ⟨r15, hr15, h⟩ := zi_bind h
        refine zv_cv hB (zv_emq (va2 := [.inr 0, .inl 93]) (F := [.inl r14.1, .inl r14.2.1, .inl f2, .inr 2, .inl r14.2.2.1]) (F' := [.inl r15.1, .inl r15.2, .inl f2, .inr 2, .inl r14.2.2.1]) (G := [g0, r14.2.2.2.1, r14.2.2.2.2]) (G' := [g0, r14.2.2.2.1, r14.2.2.2.2]) (ρ := [0, 1]) (φ := [0, 1, 2]) (ψ := [0]) [some 0, some 1, some 2, none, none] [some 0, none, none] zyw_LawReader_skip zyw_LawReader_readSum zye_LawReader_readSum (by decide +kernel) (zt_LawReader_skip hr15) ⟨⟨_, rfl, fun _ => rfl⟩, ⟨_, rfl, fun _ => rfl⟩, ⟨_, rfl, fun _ => rfl⟩, trivial⟩ ⟨rfl, trivial⟩ rfl rfl rfl rfl rfl rfl rfl) zd45_51 zxt46 rfl (by show 2 + 1 ≤ 6 + (dp + 1); omega) (by show 8 + (2 + 11) + 60 * (2) ≤ 60 * (6 + (dp + 1)); omega) rfl ?_
        refine zv_goto hB zd45_54 rfl ?_
        have hw := Option.some.inj h
        subst hw
        exact hvret _ _ _ _ zd45_119 trivial ⟨rfl, rfl, rfl⟩
      · rw [if_neg (Int.not_lt.mpr hc13)] at h
        refine zv_ald hB zd45_25 rfl rfl rfl ?_
        refine zv_con hB zd45_26 rfl ?_
        obtain ⟨r16, hr16, h⟩ := zi_bind h
        refine zv_cv hB (zv_emq (va2 := [.inr 0, .inl 5]) (F := [.inl f0, .inl f1, .inl f2, .inr 2, .inl f4]) (F' := [.inl r16, .inl f1, .inl f2, .inr 2, .inl f4]) (G := [g0, g1, g2]) (G' := [g0, g1, g2]) (ρ := [0]) (φ := [0, 1]) (ψ := []) [some 0, some 1, none, none, none] [none, none, none] zyw_LawReader_fail zyw_LawReader_readSum zye_LawReader_readSum (by decide +kernel) (zt_LawReader_fail hr16) ⟨⟨_, rfl, fun _ => rfl⟩, ⟨_, rfl, fun _ => rfl⟩, trivial⟩ trivial rfl rfl rfl rfl rfl rfl rfl) zd45_27 zxt41 rfl (by show 1 + 1 ≤ 6 + (dp + 1); omega) (by show 8 + (2 + 11) + 60 * (1) ≤ 60 * (6 + (dp + 1)); omega) rfl ?_
        have hw := Option.some.inj h
        subst hw
        exact hvret _ _ _ _ zd45_30 trivial ⟨rfl, rfl, rfl⟩
  · rw [if_neg hc1] at h
    have hw := Option.some.inj h
    subst hw
    exact hvret _ _ _ _ zd45_7 trivial ⟨rfl, rfl, rfl⟩
def zg_LawReader_readSum : Nat → Nat → Int → Int → Int → Int → Int → (Int → Int) → (Int → Int) → (Int → Int) → Option (Int × Int × Int × (Int → Int) × (Int → Int))
  | 0, _, _, _, _, _, _, _, _, _ => none
  | n + 1, 0, x1, f0, f1, f2, f4, g0, g1, g2 => zm_LawReader_readSum (zg_LawReader_readSum n) x1 f0 f1 f2 f4 g0 g1 g2
  | n + 1, 1, x1, f0, f1, f2, f4, g0, g1, g2 => zm_LawReader_readTerm (zg_LawReader_readSum n) x1 f0 f1 f2 f4 g0 g1 g2
  | n + 1, _, x1, f0, f1, f2, f4, g0, g1, g2 => zm_LawReader_readFactor (zg_LawReader_readSum n) x1 f0 f1 f2 f4 g0 g1 g2
theorem ztg_LawReader_readSum : ∀ n : Nat, (∀ (x1 : Int) (f0 : Int) (f1 : Int) (f2 : Int) (f4 : Int) (g0 : (Int → Int)) (g1 : (Int → Int)) (g2 : (Int → Int)) (o : Int × Int × Int × (Int → Int) × (Int → Int)), zg_LawReader_readSum n 0 x1 f0 f1 f2 f4 g0 g1 g2 = some o → zv_Fn z_TB z_cl z_KX zy_LawReader_readSum zxm43 (6 + n, 60 * (6 + n)) [.inr 0, .inl x1] [.inl f0, .inl f1, .inl f2, .inr 2, .inl f4] [g0, g1, g2] none [.inl o.1, .inl o.2.1, .inl f2, .inr 2, .inl o.2.2.1] [g0, o.2.2.2.1, o.2.2.2.2]) ∧ (∀ (x1 : Int) (f0 : Int) (f1 : Int) (f2 : Int) (f4 : Int) (g0 : (Int → Int)) (g1 : (Int → Int)) (g2 : (Int → Int)) (o : Int × Int × Int × (Int → Int) × (Int → Int)), zg_LawReader_readSum n 1 x1 f0 f1 f2 f4 g0 g1 g2 = some o → zv_Fn z_TB z_cl z_KX zy_LawReader_readSum zxm44 (6 + n, 60 * (6 + n)) [.inr 0, .inl x1] [.inl f0, .inl f1, .inl f2, .inr 2, .inl f4] [g0, g1, g2] none [.inl o.1, .inl o.2.1, .inl f2, .inr 2, .inl o.2.2.1] [g0, o.2.2.2.1, o.2.2.2.2]) ∧ (∀ (x1 : Int) (f0 : Int) (f1 : Int) (f2 : Int) (f4 : Int) (g0 : (Int → Int)) (g1 : (Int → Int)) (g2 : (Int → Int)) (o : Int × Int × Int × (Int → Int) × (Int → Int)), zg_LawReader_readSum n 2 x1 f0 f1 f2 f4 g0 g1 g2 = some o → zv_Fn z_TB z_cl z_KX zy_LawReader_readSum zxm45 (6 + n, 60 * (6 + n)) [.inr 0, .inl x1] [.inl f0, .inl f1, .inl f2, .inr 2, .inl f4] [g0, g1, g2] none [.inl o.1, .inl o.2.1, .inl f2, .inr 2, .inl o.2.2.1] [g0, o.2.2.2.1, o.2.2.2.2]) := by
  intro n
  induction n with
  | zero => exact ⟨fun _ _ _ _ _ _ _ _ o h => absurd (show none = some o from h) (fun h => by cases h), fun _ _ _ _ _ _ _ _ o h => absurd (show none = some o from h) (fun h => by cases h), fun _ _ _ _ _ _ _ _ o h => absurd (show none = some o from h) (fun h => by cases h)⟩
  | succ n ih =>
    obtain ⟨ih0, ih1, ih2⟩ := ih
    exact ⟨fun _ _ _ _ _ _ _ _ o h => zts_LawReader_readSum (rc := zg_LawReader_readSum n) ih0 ih1 ih2 h, fun _ _ _ _ _ _ _ _ o h => zts_LawReader_readTerm (rc := zg_LawReader_readSum n) ih0 ih1 ih2 h, fun _ _ _ _ _ _ _ _ o h => zts_LawReader_readFactor (rc := zg_LawReader_readSum n) ih0 ih1 ih2 h⟩
def zf_LawReader_readSum (x1 : Int) (f0 : Int) (f1 : Int) (f2 : Int) (f4 : Int) (g0 : (Int → Int)) (g1 : (Int → Int)) (g2 : (Int → Int)) : Option (Int × Int × Int × (Int → Int) × (Int → Int)) := zg_LawReader_readSum 30 0 x1 f0 f1 f2 f4 g0 g1 g2
theorem zt_LawReader_readSum {x1 : Int} {f0 : Int} {f1 : Int} {f2 : Int} {f4 : Int} {g0 : (Int → Int)} {g1 : (Int → Int)} {g2 : (Int → Int)} {o : Int × Int × Int × (Int → Int) × (Int → Int)} (h : zf_LawReader_readSum x1 f0 f1 f2 f4 g0 g1 g2 = some o) : zv_Fn z_TB z_cl z_KX zy_LawReader_readSum zxm43 (36, 2160) [.inr 0, .inl x1] [.inl f0, .inl f1, .inl f2, .inr 2, .inl f4] [g0, g1, g2] none [.inl o.1, .inl o.2.1, .inl f2, .inr 2, .inl o.2.2.1] [g0, o.2.2.2.1, o.2.2.2.2] := (ztg_LawReader_readSum 30).1 _ _ _ _ _ _ _ _ o h
def zf_LawReader_readTerm (x1 : Int) (f0 : Int) (f1 : Int) (f2 : Int) (f4 : Int) (g0 : (Int → Int)) (g1 : (Int → Int)) (g2 : (Int → Int)) : Option (Int × Int × Int × (Int → Int) × (Int → Int)) := zg_LawReader_readSum 30 1 x1 f0 f1 f2 f4 g0 g1 g2
theorem zt_LawReader_readTerm {x1 : Int} {f0 : Int} {f1 : Int} {f2 : Int} {f4 : Int} {g0 : (Int → Int)} {g1 : (Int → Int)} {g2 : (Int → Int)} {o : Int × Int × Int × (Int → Int) × (Int → Int)} (h : zf_LawReader_readTerm x1 f0 f1 f2 f4 g0 g1 g2 = some o) : zv_Fn z_TB z_cl z_KX zy_LawReader_readSum zxm44 (36, 2160) [.inr 0, .inl x1] [.inl f0, .inl f1, .inl f2, .inr 2, .inl f4] [g0, g1, g2] none [.inl o.1, .inl o.2.1, .inl f2, .inr 2, .inl o.2.2.1] [g0, o.2.2.2.1, o.2.2.2.2] := (ztg_LawReader_readSum 30).2.1 _ _ _ _ _ _ _ _ o h
def zf_LawReader_readFactor (x1 : Int) (f0 : Int) (f1 : Int) (f2 : Int) (f4 : Int) (g0 : (Int → Int)) (g1 : (Int → Int)) (g2 : (Int → Int)) : Option (Int × Int × Int × (Int → Int) × (Int → Int)) := zg_LawReader_readSum 30 2 x1 f0 f1 f2 f4 g0 g1 g2
theorem zt_LawReader_readFactor {x1 : Int} {f0 : Int} {f1 : Int} {f2 : Int} {f4 : Int} {g0 : (Int → Int)} {g1 : (Int → Int)} {g2 : (Int → Int)} {o : Int × Int × Int × (Int → Int) × (Int → Int)} (h : zf_LawReader_readFactor x1 f0 f1 f2 f4 g0 g1 g2 = some o) : zv_Fn z_TB z_cl z_KX zy_LawReader_readSum zxm45 (36, 2160) [.inr 0, .inl x1] [.inl f0, .inl f1, .inl f2, .inr 2, .inl f4] [g0, g1, g2] none [.inl o.1, .inl o.2.1, .inl f2, .inr 2, .inl o.2.2.1] [g0, o.2.2.2.1, o.2.2.2.2] := (ztg_LawReader_readSum 30).2.2 _ _ _ _ _ _ _ _ o h
