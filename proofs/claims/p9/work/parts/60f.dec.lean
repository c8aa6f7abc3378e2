/-! Methods as functions, and that they do what these do. -/
/-! LawReader_readCondition (I)V -/
-- names: 0 LawReader('arg', 0), 1 (0, 220)(0, 5, 0), 2 Law(0, 5, 4), 3 (0, 200)(2, 4, 0), 4 (0, 200)(2, 4, 1)
-- fields: f0 = 0.fault_, f1 = 0.at_, f2 = 0.length_, f3 = 0.law_, f4 = 2.steps_; arrays: g0 = 1, g1 = 3, g2 = 4; out: [('f', 0), ('f', 1), ('f', 4), ('g', 1), ('g', 2)]
abbrev zy_LawReader_readCondition : zNL := (5, [(0, 5), (2, 4)], [(0, 5, 3, 0), (0, 5, 2, 1), (0, 5, 1, 2), (0, 5, 4, 3), (2, 4, 2, 4)], [(0, 5, 0, 1), (2, 4, 0, 3), (2, 4, 1, 4)], [(1, 0, 220, 0), (3, 0, 200, 1), (4, 0, 200, 2)])
theorem zyw_LawReader_readCondition : zv_wf zy_LawReader_readCondition = true := by decide +kernel
theorem zye_LawReader_readCondition : zv_ek2 zy_LawReader_readCondition = true := by decide +kernel
def zm_LawReader_readCondition_l0_b (rc : Nat → Int → Int → Int → Int → Int → (Int → Int) → (Int → Int) → (Int → Int) → Option (Int × Int × Int × (Int → Int) × (Int → Int))) (x1 : Int) (f2 : Int) (g0 : (Int → Int)) (rec : Int → Int → Int → (Int → Int) → (Int → Int) → Option (Int × Int × Int × (Int → Int) × (Int → Int))) (f0 : Int) (f1 : Int) (f4 : Int) (g1 : (Int → Int)) (g2 : (Int → Int)) : Option (Int × Int × Int × (Int → Int) × (Int → Int)) := if f0 = 0 then (if f1 < f2 then (cond (zi_ix f1 220) (if (g0 f1) = 124 then ((zf_Law_addStep 3 0 f4 g1 g2).bind fun r6 => ((rc 1 x1 f0 (zi_w (f1 + 1)) f2 r6.2.1 g0 r6.2.2.1 r6.2.2.2).bind fun r7 => ((zf_Law_landJump r6.1 r7.2.2.1 r7.2.2.2.2).bind fun r8 => (rec r7.1 r7.2.1 r7.2.2.1 r7.2.2.2.1 r8)))) else (some (f0, f1, f4, g1, g2))) none) else (some (f0, f1, f4, g1, g2))) else (some (f0, f1, f4, g1, g2))
def zm_LawReader_readCondition_l0 (rc : Nat → Int → Int → Int → Int → Int → (Int → Int) → (Int → Int) → (Int → Int) → Option (Int × Int × Int × (Int → Int) × (Int → Int))) (x1 : Int) (f2 : Int) (g0 : (Int → Int)) : Nat → Int → Int → Int → (Int → Int) → (Int → Int) → Option (Int × Int × Int × (Int → Int) × (Int → Int))
  | 0, _, _, _, _, _ => none
  | n + 1, f0, f1, f4, g1, g2 => zm_LawReader_readCondition_l0_b rc x1 f2 g0 (zm_LawReader_readCondition_l0 rc x1 f2 g0 n) f0 f1 f4 g1 g2
def zm_LawReader_readCondition (rc : Nat → Int → Int → Int → Int → Int → (Int → Int) → (Int → Int) → (Int → Int) → Option (Int × Int × Int × (Int → Int) × (Int → Int))) (x1 : Int) (f0 : Int) (f1 : Int) (f2 : Int) (f4 : Int) (g0 : (Int → Int)) (g1 : (Int → Int)) (g2 : (Int → Int)) : Option (Int × Int × Int × (Int → Int) × (Int → Int)) := (rc 1 x1 f0 f1 f2 f4 g0 g1 g2).bind fun r1 => ((zm_LawReader_readCondition_l0 rc x1 f2 g0 zi_fu r1.1 r1.2.1 r1.2.2.1 r1.2.2.2.1 r1.2.2.2.2).bind fun q9 => (some (q9.1, q9.2.1, q9.2.2.1, q9.2.2.2.1, q9.2.2.2.2)))
theorem zd69_0 : decode zxm69.2.1 0 = .ok (.aload_n 0, 1) := by decide +kernel
theorem zd69_1 : decode zxm69.2.1 1 = .ok (.iload_n 1, 1) := by decide +kernel
theorem zd69_2 : decode zxm69.2.1 2 = .ok (.invokevirtual 73, 3) := by decide +kernel
theorem zd69_5 : decode zxm69.2.1 5 = .ok (.aload_n 0, 1) := by decide +kernel
theorem zd69_6 : decode zxm69.2.1 6 = .ok (.getfield 18, 3) := by decide +kernel
theorem zd69_9 : decode zxm69.2.1 9 = .ok (.ifCond .ne 64, 3) := by decide +kernel
theorem zd69_12 : decode zxm69.2.1 12 = .ok (.aload_n 0, 1) := by decide +kernel
theorem zd69_13 : decode zxm69.2.1 13 = .ok (.getfield 15, 3) := by decide +kernel
theorem zd69_16 : decode zxm69.2.1 16 = .ok (.aload_n 0, 1) := by decide +kernel
theorem zd69_17 : decode zxm69.2.1 17 = .ok (.getfield 9, 3) := by decide +kernel
theorem zd69_20 : decode zxm69.2.1 20 = .ok (.if_icmp .ge 53, 3) := by decide +kernel
theorem zd69_23 : decode zxm69.2.1 23 = .ok (.aload_n 0, 1) := by decide +kernel
theorem zd69_24 : decode zxm69.2.1 24 = .ok (.getfield 21, 3) := by decide +kernel
theorem zd69_27 : decode zxm69.2.1 27 = .ok (.aload_n 0, 1) := by decide +kernel
theorem zd69_28 : decode zxm69.2.1 28 = .ok (.getfield 15, 3) := by decide +kernel
theorem zd69_31 : decode zxm69.2.1 31 = .ok (.iaload, 1) := by decide +kernel
theorem zd69_32 : decode zxm69.2.1 32 = .ok (.bipush 124, 2) := by decide +kernel
theorem zd69_34 : decode zxm69.2.1 34 = .ok (.if_icmp .ne 39, 3) := by decide +kernel
theorem zd69_37 : decode zxm69.2.1 37 = .ok (.aload_n 0, 1) := by decide +kernel
theorem zd69_38 : decode zxm69.2.1 38 = .ok (.dup, 1) := by decide +kernel
theorem zd69_39 : decode zxm69.2.1 39 = .ok (.getfield 15, 3) := by decide +kernel
theorem zd69_42 : decode zxm69.2.1 42 = .ok (.iconst 1, 1) := by decide +kernel
theorem zd69_43 : decode zxm69.2.1 43 = .ok (.iadd, 1) := by decide +kernel
theorem zd69_44 : decode zxm69.2.1 44 = .ok (.putfield 15, 3) := by decide +kernel
theorem zd69_47 : decode zxm69.2.1 47 = .ok (.aload_n 0, 1) := by decide +kernel
theorem zd69_48 : decode zxm69.2.1 48 = .ok (.getfield 25, 3) := by decide +kernel
theorem zd69_51 : decode zxm69.2.1 51 = .ok (.iconst 3, 1) := by decide +kernel
theorem zd69_52 : decode zxm69.2.1 52 = .ok (.iconst 0, 1) := by decide +kernel
theorem zd69_53 : decode zxm69.2.1 53 = .ok (.invokevirtual 76, 3) := by decide +kernel
theorem zd69_56 : decode zxm69.2.1 56 = .ok (.istore_n 2, 1) := by decide +kernel
theorem zd69_57 : decode zxm69.2.1 57 = .ok (.aload_n 0, 1) := by decide +kernel
theorem zd69_58 : decode zxm69.2.1 58 = .ok (.iload_n 1, 1) := by decide +kernel
theorem zd69_59 : decode zxm69.2.1 59 = .ok (.invokevirtual 73, 3) := by decide +kernel
theorem zd69_62 : decode zxm69.2.1 62 = .ok (.aload_n 0, 1) := by decide +kernel
theorem zd69_63 : decode zxm69.2.1 63 = .ok (.getfield 25, 3) := by decide +kernel
theorem zd69_66 : decode zxm69.2.1 66 = .ok (.iload_n 2, 1) := by decide +kernel
theorem zd69_67 : decode zxm69.2.1 67 = .ok (.invokevirtual 79, 3) := by decide +kernel
theorem zd69_70 : decode zxm69.2.1 70 = .ok (.goto (-65), 3) := by decide +kernel
theorem zd69_73 : decode zxm69.2.1 73 = .ok (.return_, 1) := by decide +kernel
theorem zts_LawReader_readCondition {dp : Nat} {rc : Nat → Int → Int → Int → Int → Int → (Int → Int) → (Int → Int) → (Int → Int) → Option (Int × Int × Int × (Int → Int) × (Int → Int))} (ih0 : ∀ (x1 : Int) (f0 : Int) (f1 : Int) (f2 : Int) (f4 : Int) (g0 : (Int → Int)) (g1 : (Int → Int)) (g2 : (Int → Int)) (o : Int × Int × Int × (Int → Int) × (Int → Int)), rc 0 x1 f0 f1 f2 f4 g0 g1 g2 = some o → zv_Fn z_TB z_cl z_KX zy_LawReader_readCondition zxm69 (38 + dp, 60 * (38 + dp)) [.inr 0, .inl x1] [.inl f0, .inl f1, .inl f2, .inr 2, .inl f4] [g0, g1, g2] none [.inl o.1, .inl o.2.1, .inl f2, .inr 2, .inl o.2.2.1] [g0, o.2.2.2.1, o.2.2.2.2]) (ih1 : ∀ (x1 : Int) (f0 : Int) (f1 : Int) (f2 : Int) (f4 : Int) (g0 : (Int → Int)) (g1 : (Int → Int)) (g2 : (Int → Int)) (o : Int × Int × Int × (Int → Int) × (Int → Int)), rc 1 x1 f0 f1 f2 f4 g0 g1 g2 = some o → zv_Fn z_TB z_cl z_KX zy_LawReader_readCondition zxm70 (38 + dp, 60 * (38 + dp)) [.inr 0, .inl x1] [.inl f0, .inl f1, .inl f2, .inr 2, .inl f4] [g0, g1, g2] none [.inl o.1, .inl o.2.1, .inl f2, .inr 2, .inl o.2.2.1] [g0, o.2.2.2.1, o.2.2.2.2]) (ih2 : ∀ (x1 : Int) (f0 : Int) (f1 : Int) (f2 : Int) (f4 : Int) (g0 : (Int → Int)) (g1 : (Int → Int)) (g2 : (Int → Int)) (o : Int × Int × Int × (Int → Int) × (Int → Int)), rc 2 x1 f0 f1 f2 f4 g0 g1 g2 = some o → zv_Fn z_TB z_cl z_KX zy_LawReader_readCondition zxm71 (38 + dp, 60 * (38 + dp)) [.inr 0, .inl x1] [.inl f0, .inl f1, .inl f2, .inr 2, .inl f4] [g0, g1, g2] none [.inl o.1, .inl o.2.1, .inl f2, .inr 2, .inl o.2.2.1] [g0, o.2.2.2.1, o.2.2.2.2]) {x1 : Int} {f0 : Int} {f1 : Int} {f2 : Int} {f4 : Int} {g0 : (Int → Int)} {g1 : (Int → Int)} {g2 : (Int → Int)} {o : Int × Int × Int × (Int → Int) × (Int → Int)} (h : zm_LawReader_readCondition rc x1 f0 f1 f2 f4 g0 g1 g2 = some o) : zv_Fn z_TB z_cl z_KX zy_LawReader_readCondition zxm69 (38 + (dp + 1), 60 * (38 + (dp + 1))) [.inr 0, .inl x1] [.inl f0, .inl f1, .inl f2, .inr 2, .inl f4] [g0, g1, g2] none [.inl o.1, .inl o.2.1, .inl f2, .inr 2, .inl o.2.2.1] [g0, o.2.2.2.1, o.2.2.2.2] := zv_meth (K := (z_KF3, z_KC3, z_KL3, z_KT3, [], [], [], none)) (FT := z_FT) (MT := z_MT) (n := 2) zxp69 (z_ks3 _ (fun _ h => List.mem_cons_of_mem _ h) _ _ _ _ (fun j r h _ => by cases h)) (fun _ _ => zs_KX_p) zyw_LawReader_readCondition (fun va F G h => by obtain ⟨rfl, _⟩ := h; rfl) (fun va F G h => by obtain ⟨rfl, _⟩ := h; rfl) rfl fun good va F G hB hret hvret hP => by
  obtain ⟨rfl, rfl, rfl⟩ := hP
  have l0 : ∀ (n : Nat) (x1 : Int) (f0 : Int) (f1 : Int) (f4 : Int) (g1 : (Int → Int)) (g2 : (Int → Int)) (q : Int × Int × Int × (Int → Int) × (Int → Int)), zm_LawReader_readCondition_l0 rc x1 f2 g0 n f0 f1 f4 g1 g2 = some q → (good 73 [.inr 1000, .inr 1000, .inr 1000] [] [.inl q.1, .inl q.2.1, .inl f2, .inr 2, .inl q.2.2.1] [g0, q.2.2.2.1, q.2.2.2.2]) → good 5 [.inr 0, .inl x1, .inr 1000] [] [.inl f0, .inl f1, .inl f2, .inr 2, .inl f4] [g0, g1, g2] := by
    intro n
    induction n with
    | zero => intro x1 f0 f1 f4 g1 g2 q h; exact absurd (show none = some q from h) (fun h => by cases h)
    | succ n ih =>
      intro x1 f0 f1 f4 g1 g2 q h hK
      replace h : zm_LawReader_readCondition_l0_b rc x1 f2 g0 (zm_LawReader_readCondition_l0 rc x1 f2 g0 n) f0 f1 f4 g1 g2 = some q := h
      unfold zm_LawReader_readCondition_l0_b at h
      refine zv_ald hB zd69_5 rfl rfl rfl ?_
      refine zv_getf hB zd69_6 rfl rfl (fun _ _ => ?_)
      refine zv_zne hB zd69_9 rfl (fun hc2 => ?_) (fun hc2 => ?_)
      · rw [if_neg hc2] at h
        have hq := Option.some.inj h
        subst hq
        refine zv_wk hB (L' := [.inr 1000, .inr 1000, .inr 1000]) (F' := [.inl f0, .inl f1, .inl f2, .inr 2, .inl f4]) ⟨fun (h : zv_is (.inr 1000)) => (Nat.lt_irrefl 1000 h).elim, fun (h : zv_is (.inr 1000)) => (Nat.lt_irrefl 1000 h).elim, fun (h : zv_is (.inr 1000)) => (Nat.lt_irrefl 1000 h).elim, trivial⟩ ⟨fun _ => rfl, fun _ => rfl, fun _ => rfl, fun _ => rfl, fun _ => rfl, trivial⟩ ?_
        exact hK
      · rw [if_pos hc2] at h
        refine zv_ald hB zd69_12 rfl rfl rfl ?_
        refine zv_getf hB zd69_13 rfl rfl (fun _ _ => ?_)
        refine zv_ald hB zd69_16 rfl rfl rfl ?_
        refine zv_getf hB zd69_17 rfl rfl (fun _ _ => ?_)
        refine zv_cge hB zd69_20 rfl (fun hc3 => ?_) (fun hc3 => ?_)
        · rw [if_neg (Int.not_lt.mpr hc3)] at h
          have hq := Option.some.inj h
          subst hq
          refine zv_wk hB (L' := [.inr 1000, .inr 1000, .inr 1000]) (F' := [.inl f0, .inl f1, .inl f2, .inr 2, .inl f4]) ⟨fun (h : zv_is (.inr 1000)) => (Nat.lt_irrefl 1000 h).elim, fun (h : zv_is (.inr 1000)) => (Nat.lt_irrefl 1000 h).elim, fun (h : zv_is (.inr 1000)) => (Nat.lt_irrefl 1000 h).elim, trivial⟩ ⟨fun _ => rfl, fun _ => rfl, fun _ => rfl, fun _ => rfl, fun _ => rfl, trivial⟩ ?_
          exact hK
        · rw [if_pos hc3] at h
          refine zv_ald hB zd69_23 rfl rfl rfl ?_
          refine zv_getr hB zd69_24 rfl ?_
          refine zv_ald hB zd69_27 rfl rfl rfl ?_
          refine zv_getf hB zd69_28 rfl rfl (fun _ _ => ?_)
          obtain ⟨c4, h⟩ := zi_if h
          refine zv_iald hB zd69_31 rfl rfl (zi_ix_ok c4).1 (zi_ix_ok c4).2 (fun _ _ => ?_)
          refine zv_con hB zd69_32 rfl ?_
          refine zv_cne hB zd69_34 rfl (fun hc5 => ?_) (fun hc5 => ?_)
          · rw [if_neg hc5] at h
            have hq := Option.some.inj h
            subst hq
            refine zv_wk hB (L' := [.inr 1000, .inr 1000, .inr 1000]) (F' := [.inl f0, .inl f1, .inl f2, .inr 2, .inl f4]) ⟨fun (h : zv_is (.inr 1000)) => (Nat.lt_irrefl 1000 h).elim, fun (h : zv_is (.inr 1000)) => (Nat.lt_irrefl 1000 h).elim, fun (h : zv_is (.inr 1000)) => (Nat.lt_irrefl 1000 h).elim, trivial⟩ ⟨fun _ => rfl, fun _ => rfl, fun _ => rfl, fun _ => rfl, fun _ => rfl, trivial⟩ ?_
            exact hK
          · rw [if_pos hc5] at h
            refine zv_ald hB zd69_37 rfl rfl rfl ?_
            refine zv_dup hB zd69_38 rfl ?_
            refine zv_getf hB zd69_39 rfl rfl (fun _ _ => ?_)
            refine zv_con hB zd69_42 rfl ?_
            refine zv_addw hB zd69_43 ?_
            refine zv_putf hB zd69_44 rfl rfl (fun h => by cases h) rfl ?_
            refine zv_ald hB zd69_47 rfl rfl rfl ?_
            refine zv_getq hB zd69_48 rfl rfl rfl ?_
            refine zv_con hB zd69_51 rfl ?_
            refine zv_con hB zd69_52 rfl ?_
            obtain ⟨r6, hr6, h⟩ := zi_bind h
            refine zv_cv hB (zv_emq (va2 := [.inr 2, .inl 3, .inl 0]) (F := [.inl f0, .inl (zi_w (f1 + 1)), .inl f2, .inr 2, .inl f4]) (F' := [.inl f0, .inl (zi_w (f1 + 1)), .inl f2, .inr 2, .inl r6.2.1]) (G := [g0, g1, g2]) (G' := [g0, r6.2.2.1, r6.2.2.2]) (ρ := [2, 3, 4]) (φ := [4]) (ψ := [1, 2]) [none, none, none, none, some 0] [none, some 0, some 1] zyw_Law_addStep zyw_LawReader_readCondition zye_LawReader_readCondition (by decide +kernel) (zt_Law_addStep hr6) ⟨⟨_, rfl, fun _ => rfl⟩, trivial⟩ ⟨rfl, rfl, trivial⟩ rfl rfl rfl rfl rfl rfl rfl) zd69_53 zxt49 rfl (by show 0 + 1 ≤ 38 + (dp + 1); omega) (by show 8 + (3 + 11) + 60 * (0) ≤ 60 * (38 + (dp + 1)); omega) rfl ?_
            refine zv_ist hB zd69_56 rfl rfl rfl ?_
            refine zv_ald hB zd69_57 rfl rfl rfl ?_
            refine zv_ild hB zd69_58 rfl rfl ?_
            obtain ⟨r7, hr7, h⟩ := zi_bind h
            refine zv_cv hB (show zv_Fn _ _ _ zy_LawReader_readCondition _ _ [.inr 0, .inl x1] [.inl f0, .inl (zi_w (f1 + 1)), .inl f2, .inr 2, .inl r6.2.1] [g0, r6.2.2.1, r6.2.2.2] none [.inl r7.1, .inl r7.2.1, .inl f2, .inr 2, .inl r7.2.2.1] [g0, r7.2.2.2.1, r7.2.2.2.2] from ih1 _ _ _ _ _ _ _ _ r7 hr7) zd69_59 zxt70 rfl (by show 38 + dp + 1 ≤ 38 + (dp + 1); omega) (by show 8 + (3 + 11) + 60 * (38 + dp) ≤ 60 * (38 + (dp + 1)); omega) rfl ?_
            refine zv_ald hB zd69_62 rfl rfl rfl ?_
            refine zv_getq hB zd69_63 rfl rfl rfl ?_
            refine zv_ild hB zd69_66 rfl rfl ?_
            obtain ⟨r8, hr8, h⟩ := zi_bind h
            refine zv_cv hB (zv_emq (va2 := [.inr 2, .inl r6.1]) (F := [.inl r7.1, .inl r7.2.1, .inl f2, .inr 2, .inl r7.2.2.1]) (F' := [.inl r7.1, .inl r7.2.1, .inl f2, .inr 2, .inl r7.2.2.1]) (G := [g0, r7.2.2.2.1, r7.2.2.2.2]) (G' := [g0, r7.2.2.2.1, r8]) (ρ := [2, 4]) (φ := [4]) (ψ := [2]) [none, none, none, none, some 0] [none, none, some 0] zyw_Law_landJump zyw_LawReader_readCondition zye_LawReader_readCondition (by decide +kernel) (zt_Law_landJump hr8) ⟨⟨_, rfl, fun _ => rfl⟩, trivial⟩ ⟨rfl, trivial⟩ rfl rfl rfl rfl rfl rfl rfl) zd69_67 zxt73 rfl (by show 0 + 1 ≤ 38 + (dp + 1); omega) (by show 8 + (2 + 11) + 60 * (0) ≤ 60 * (38 + (dp + 1)); omega) rfl ?_
            refine zv_goto hB zd69_70 rfl ?_
            refine zv_wk hB (L' := [.inr 0, .inl x1, .inr 1000]) (F' := [.inl r7.1, .inl r7.2.1, .inl f2, .inr 2, .inl r7.2.2.1]) ⟨fun _ => rfl, fun _ => rfl, fun (h : zv_is (.inr 1000)) => (Nat.lt_irrefl 1000 h).elim, trivial⟩ ⟨fun _ => rfl, fun _ => rfl, fun _ => rfl, fun _ => rfl, fun _ => rfl, trivial⟩ ?_
            exact ih _ _ _ _ _ _ q h hK
  unfold zm_LawReader_readCondition at h
  refine zv_ald hB zd69_0 rfl rfl rfl ?_
  refine zv_ild hB zd69_1 rfl rfl ?_
  obtain ⟨r1, hr1, h⟩ := zi_bind h
  refine zv_cv hB (show zv_Fn _ _ _ zy_LawReader_readCondition _ _ [.inr 0, .inl x1] [.inl f0, .inl f1, .inl f2, .inr 2, .inl f4] [g0, g1, g2] none [.inl r1.1, .inl r1.2.1, .inl f2, .inr 2, .inl r1.2.2.1] [g0, r1.2.2.2.1, r1.2.2.2.2] from ih1 _ _ _ _ _ _ _ _ r1 hr1) zd69_2 zxt70 rfl (by show 38 + dp + 1 ≤ 38 + (dp + 1); omega) (by show 8 + (3 + 11) + 60 * (38 + dp) ≤ 60 * (38 + (dp + 1)); omega) rfl ?_
  obtain ⟨q9, hq9, h⟩ := zi_bind h
  refine l0 _ _ _ _ _ _ _ q9 hq9 ?_
  show good 73 [.inr 1000, .inr 1000, .inr 1000] [] [.inl q9.1, .inl q9.2.1, .inl f2, .inr 2, .inl q9.2.2.1] [g0, q9.2.2.2.1, q9.2.2.2.2]
  have hw := Option.some.inj h
  subst hw
  exact hvret _ _ _ _ zd69_73 trivial ⟨rfl, rfl, rfl⟩
/-! LawReader_readPart (I)V -/
def zm_LawReader_readPart_l0_b (rc : Nat → Int → Int → Int → Int → Int → (Int → Int) → (Int → Int) → (Int → Int) → Option (Int × Int × Int × (Int → Int) × (Int → Int))) (x1 : Int) (f2 : Int) (g0 : (Int → Int)) (rec : Int → Int → Int → (Int → Int) → (Int → Int) → Option (Int × Int × Int × (Int → Int) × (Int → Int))) (f0 : Int) (f1 : Int) (f4 : Int) (g1 : (Int → Int)) (g2 : (Int → Int)) : Option (Int × Int × Int × (Int → Int) × (Int → Int)) := if f0 = 0 then (if f1 < f2 then (cond (zi_ix f1 220) (if (g0 f1) = 38 then ((zf_Law_addStep 4 0 f4 g1 g2).bind fun r6 => ((rc 2 x1 f0 (zi_w (f1 + 1)) f2 r6.2.1 g0 r6.2.2.1 r6.2.2.2).bind fun r7 => ((zf_Law_landJump r6.1 r7.2.2.1 r7.2.2.2.2).bind fun r8 => (rec r7.1 r7.2.1 r7.2.2.1 r7.2.2.2.1 r8)))) else (some (f0, f1, f4, g1, g2))) none) else (some (f0, f1, f4, g1, g2))) else (some (f0, f1, f4, g1, g2))
def zm_LawReader_readPart_l0 (rc : Nat → Int → Int → Int → Int → Int → (Int → Int) → (Int → Int) → (Int → Int) → Option (Int × Int × Int × (Int → Int) × (Int → Int))) (x1 : Int) (f2 : Int) (g0 : (Int → Int)) : Nat → Int → Int → Int → (Int → Int) → (Int → Int) → Option (Int × Int × Int × (Int → Int) × (Int → Int))
  | 0, _, _, _, _, _ => none
  | n + 1, f0, f1, f4, g1, g2 => zm_LawReader_readPart_l0_b rc x1 f2 g0 (zm_LawReader_readPart_l0 rc x1 f2 g0 n) f0 f1 f4 g1 g2
def zm_LawReader_readPart (rc : Nat → Int → Int → Int → Int → Int → (Int → Int) → (Int → Int) → (Int → Int) → Option (Int × Int × Int × (Int → Int) × (Int → Int))) (x1 : Int) (f0 : Int) (f1 : Int) (f2 : Int) (f4 : Int) (g0 : (Int → Int)) (g1 : (Int → Int)) (g2 : (Int → Int)) : Option (Int × Int × Int × (Int → Int) × (Int → Int)) := (rc 2 x1 f0 f1 f2 f4 g0 g1 g2).bind fun r1 => ((zm_LawReader_readPart_l0 rc x1 f2 g0 zi_fu r1.1 r1.2.1 r1.2.2.1 r1.2.2.2.1 r1.2.2.2.2).bind fun q9 => (some (q9.1, q9.2.1, q9.2.2.1, q9.2.2.2.1, q9.2.2.2.2)))
theorem zd70_0 : decode zxm70.2.1 0 = .ok (.aload_n 0, 1) := by decide +kernel
theorem zd70_1 : decode zxm70.2.1 1 = .ok (.iload_n 1, 1) := by decide +kernel
theorem zd70_2 : decode zxm70.2.1 2 = .ok (.invokevirtual 82, 3) := by decide +kernel
theorem zd70_5 : decode zxm70.2.1 5 = .ok (.aload_n 0, 1) := by decide +kernel
theorem zd70_6 : decode zxm70.2.1 6 = .ok (.getfield 18, 3) := by decide +kernel
theorem zd70_9 : decode zxm70.2.1 9 = .ok (.ifCond .ne 64, 3) := by decide +kernel
theorem zd70_12 : decode zxm70.2.1 12 = .ok (.aload_n 0, 1) := by decide +kernel
theorem zd70_13 : decode zxm70.2.1 13 = .ok (.getfield 15, 3) := by decide +kernel
theorem zd70_16 : decode zxm70.2.1 16 = .ok (.aload_n 0, 1) := by decide +kernel
theorem zd70_17 : decode zxm70.2.1 17 = .ok (.getfield 9, 3) := by decide +kernel
theorem zd70_20 : decode zxm70.2.1 20 = .ok (.if_icmp .ge 53, 3) := by decide +kernel
theorem zd70_23 : decode zxm70.2.1 23 = .ok (.aload_n 0, 1) := by decide +kernel
theorem zd70_24 : decode zxm70.2.1 24 = .ok (.getfield 21, 3) := by decide +kernel
theorem zd70_27 : decode zxm70.2.1 27 = .ok (.aload_n 0, 1) := by decide +kernel
theorem zd70_28 : decode zxm70.2.1 28 = .ok (.getfield 15, 3) := by decide +kernel
theorem zd70_31 : decode zxm70.2.1 31 = .ok (.iaload, 1) := by decide +kernel
theorem zd70_32 : decode zxm70.2.1 32 = .ok (.bipush 38, 2) := by decide +kernel
theorem zd70_34 : decode zxm70.2.1 34 = .ok (.if_icmp .ne 39, 3) := by decide +kernel
theorem zd70_37 : decode zxm70.2.1 37 = .ok (.aload_n 0, 1) := by decide +kernel
theorem zd70_38 : decode zxm70.2.1 38 = .ok (.dup, 1) := by decide +kernel
theorem zd70_39 : decode zxm70.2.1 39 = .ok (.getfield 15, 3) := by decide +kernel
theorem zd70_42 : decode zxm70.2.1 42 = .ok (.iconst 1, 1) := by decide +kernel
theorem zd70_43 : decode zxm70.2.1 43 = .ok (.iadd, 1) := by decide +kernel
theorem zd70_44 : decode zxm70.2.1 44 = .ok (.putfield 15, 3) := by decide +kernel
theorem zd70_47 : decode zxm70.2.1 47 = .ok (.aload_n 0, 1) := by decide +kernel
theorem zd70_48 : decode zxm70.2.1 48 = .ok (.getfield 25, 3) := by decide +kernel
theorem zd70_51 : decode zxm70.2.1 51 = .ok (.iconst 4, 1) := by decide +kernel
theorem zd70_52 : decode zxm70.2.1 52 = .ok (.iconst 0, 1) := by decide +kernel
theorem zd70_53 : decode zxm70.2.1 53 = .ok (.invokevirtual 76, 3) := by decide +kernel
theorem zd70_56 : decode zxm70.2.1 56 = .ok (.istore_n 2, 1) := by decide +kernel
theorem zd70_57 : decode zxm70.2.1 57 = .ok (.aload_n 0, 1) := by decide +kernel
theorem zd70_58 : decode zxm70.2.1 58 = .ok (.iload_n 1, 1) := by decide +kernel
theorem zd70_59 : decode zxm70.2.1 59 = .ok (.invokevirtual 82, 3) := by decide +kernel
theorem zd70_62 : decode zxm70.2.1 62 = .ok (.aload_n 0, 1) := by decide +kernel
theorem zd70_63 : decode zxm70.2.1 63 = .ok (.getfield 25, 3) := by decide +kernel
theorem zd70_66 : decode zxm70.2.1 66 = .ok (.iload_n 2, 1) := by decide +kernel
theorem zd70_67 : decode zxm70.2.1 67 = .ok (.invokevirtual 79, 3) := by decide +kernel
theorem zd70_70 : decode zxm70.2.1 70 = .ok (.goto (-65), 3) := by decide +kernel
theorem zd70_73 : decode zxm70.2.1 73 = .ok (.return_, 1) := by decide +kernel
theorem zts_LawReader_readPart {dp : Nat} {rc : Nat → Int → Int → Int → Int → Int → (Int → Int) → (Int → Int) → (Int → Int) → Option (Int × Int × Int × (Int → Int) × (Int → Int))} (ih0 : ∀ (x1 : Int) (f0 : Int) (f1 : Int) (f2 : Int) (f4 : Int) (g0 : (Int → Int)) (g1 : (Int → Int)) (g2 : (Int → Int)) (o : Int × Int × Int × (Int → Int) × (Int → Int)), rc 0 x1 f0 f1 f2 f4 g0 g1 g2 = some o → zv_Fn z_TB z_cl z_KX zy_LawReader_readCondition zxm69 (38 + dp, 60 * (38 + dp)) [.inr 0, .inl x1] [.inl f0, .inl f1, .inl f2, .inr 2, .inl f4] [g0, g1, g2] none [.inl o.1, .inl o.2.1, .inl f2, .inr 2, .inl o.2.2.1] [g0, o.2.2.2.1, o.2.2.2.2]) (ih1 : ∀ (x1 : Int) (f0 : Int) (f1 : Int) (f2 : Int) (f4 : Int) (g0 : (Int → Int)) (g1 : (Int → Int)) (g2 : (Int → Int)) (o : Int × Int × Int × (Int → Int) × (Int → Int)), rc 1 x1 f0 f1 f2 f4 g0 g1 g2 = some o → zv_Fn z_TB z_cl z_KX zy_LawReader_readCondition zxm70 (38 + dp, 60 * (38 + dp)) [.inr 0, .inl x1] [.inl f0, .inl f1, .inl f2, .inr 2, .inl f4] [g0, g1, g2] none [.inl o.1, .inl o.2.1, .inl f2, .inr 2, .inl o.2.2.1] [g0, o.2.2.2.1, o.2.2.2.2]) (ih2 : ∀ (x1 : Int) (f0 : Int) (f1 : Int) (f2 : Int) (f4 : Int) (g0 : (Int → Int)) (g1 : (Int → Int)) (g2 : (Int → Int)) (o : Int × Int × Int × (Int → Int) × (Int → Int)), rc 2 x1 f0 f1 f2 f4 g0 g1 g2 = some o → zv_Fn z_TB z_cl z_KX zy_LawReader_readCondition zxm71 (38 + dp, 60 * (38 + dp)) [.inr 0, .inl x1] [.inl f0, .inl f1, .inl f2, .inr 2, .inl f4] [g0, g1, g2] none [.inl o.1, .inl o.2.1, .inl f2, .inr 2, .inl o.2.2.1] [g0, o.2.2.2.1, o.2.2.2.2]) {x1 : Int} {f0 : Int} {f1 : Int} {f2 : Int} {f4 : Int} {g0 : (Int → Int)} {g1 : (Int → Int)} {g2 : (Int → Int)} {o : Int × Int × Int × (Int → Int) × (Int → Int)} (h : zm_LawReader_readPart rc x1 f0 f1 f2 f4 g0 g1 g2 = some o) : zv_Fn z_TB z_cl z_KX zy_LawReader_readCondition zxm70 (38 + (dp + 1), 60 * (38 + (dp + 1))) [.inr 0, .inl x1] [.inl f0, .inl f1, .inl f2, .inr 2, .inl f4] [g0, g1, g2] none [.inl o.1, .inl o.2.1, .inl f2, .inr 2, .inl o.2.2.1] [g0, o.2.2.2.1, o.2.2.2.2] := zv_meth (K := (z_KF3, z_KC3, z_KL3, z_KT3, [], [], [], none)) (FT := z_FT) (MT := z_MT) (n := 2) zxp70 (z_ks3 _ (fun _ h => List.mem_cons_of_mem _ h) _ _ _ _ (fun j r h _ => by cases h)) (fun _ _ => zs_KX_p) zyw_LawReader_readCondition (fun va F G h => by obtain ⟨rfl, _⟩ := h; rfl) (fun va F G h => by obtain ⟨rfl, _⟩ := h; rfl) rfl fun good va F G hB hret hvret hP => by
  obtain ⟨rfl, rfl, rfl⟩ := hP
  have l0 : ∀ (n : Nat) (x1 : Int) (f0 : Int) (f1 : Int) (f4 : Int) (g1 : (Int → Int)) (g2 : (Int → Int)) (q : Int × Int × Int × (Int → Int) × (Int → Int)), zm_LawReader_readPart_l0 rc x1 f2 g0 n f0 f1 f4 g1 g2 = some q → (good 73 [.inr 1000, .inr 1000, .inr 1000] [] [.inl q.1, .inl q.2.1, .inl f2, .inr 2, .inl q.2.2.1] [g0, q.2.2.2.1, q.2.2.2.2]) → good 5 [.inr 0, .inl x1, .inr 1000] [] [.inl f0, .inl f1, .inl f2, .inr 2, .inl f4] [g0, g1, g2] := by
    intro n
    induction n with
    | zero => intro x1 f0 f1 f4 g1 g2 q h; exact absurd (show none = some q from h) (fun h => by cases h)
    | succ n ih =>
      intro x1 f0 f1 f4 g1 g2 q h hK
      replace h : zm_LawReader_readPart_l0_b rc x1 f2 g0 (zm_LawReader_readPart_l0 rc x1 f2 g0 n) f0 f1 f4 g1 g2 = some q := h
      unfold zm_LawReader_readPart_l0_b at h
      refine zv_ald hB zd70_5 rfl rfl rfl ?_
      refine zv_getf hB zd70_6 rfl rfl (fun _ _ => ?_)
      refine zv_zne hB zd70_9 rfl (fun hc2 => ?_) (fun hc2 => ?_)
      · rw [if_neg hc2] at h
        have hq := Option.some.inj h
        subst hq
        refine zv_wk hB (L' := [.inr 1000, .inr 1000, .inr 1000]) (F' := [.inl f0, .inl f1, .inl f2, .inr 2, .inl f4]) ⟨fun (h : zv_is (.inr 1000)) => (Nat.lt_irrefl 1000 h).elim, fun (h : zv_is (.inr 1000)) => (Nat.lt_irrefl 1000 h).elim, fun (h : zv_is (.inr 1000)) => (Nat.lt_irrefl 1000 h).elim, trivial⟩ ⟨fun _ => rfl, fun _ => rfl, fun _ => rfl, fun _ => rfl, fun _ => rfl, trivial⟩ ?_
        exact hK
      · rw [if_pos hc2] at h
        refine zv_ald hB zd70_12 rfl rfl rfl ?_
        refine zv_getf hB zd70_13 rfl rfl (fun _ _ => ?_)
        refine zv_ald hB zd70_16 rfl rfl rfl ?_
        refine zv_getf hB zd70_17 rfl rfl (fun _ _ => ?_)
        refine zv_cge hB zd70_20 rfl (fun hc3 => ?_) (fun hc3 => ?_)
        · rw [if_neg (Int.not_lt.mpr hc3)] at h
          have hq := Option.some.inj h
          subst hq
          refine zv_wk hB (L' := [.inr 1000, .inr 1000, .inr 1000]) (F' := [.inl f0, .inl f1, .inl f2, .inr 2, .inl f4]) ⟨fun (h : zv_is (.inr 1000)) => (Nat.lt_irrefl 1000 h).elim, fun (h : zv_is (.inr 1000)) => (Nat.lt_irrefl 1000 h).elim, fun (h : zv_is (.inr 1000)) => (Nat.lt_irrefl 1000 h).elim, trivial⟩ ⟨fun _ => rfl, fun _ => rfl, fun _ => rfl, fun _ => rfl, fun _ => rfl, trivial⟩ ?_
          exact hK
        · rw [if_pos hc3] at h
          refine zv_ald hB zd70_23 rfl rfl rfl ?_
          refine zv_getr hB zd70_24 rfl ?_
          refine zv_ald hB zd70_27 rfl rfl rfl ?_
          refine zv_getf hB zd70_28 rfl rfl (fun _ _ => ?_)
          obtain ⟨c4, h⟩ := zi_if h
          refine zv_iald hB zd70_31 rfl rfl (zi_ix_ok c4).1 (zi_ix_ok c4).2 (fun _ _ => ?_)
          refine zv_con hB zd70_32 rfl ?_
          refine zv_cne hB zd70_34 rfl (fun hc5 => ?_) (fun hc5 => ?_)
          · rw [if_neg hc5] at h
            have hq := Option.some.inj h
            subst hq
            refine zv_wk hB (L' := [.inr 1000, .inr 1000, .inr 1000]) (F' := [.inl f0, .inl f1, .inl f2, .inr 2, .inl f4]) ⟨fun (h : zv_is (.inr 1000)) => (Nat.lt_irrefl 1000 h).elim, fun (h : zv_is (.inr 1000)) => (Nat.lt_irrefl 1000 h).elim, fun (h : zv_is (.inr 1000)) => (Nat.lt_irrefl 1000 h).elim, trivial⟩ ⟨fun _ => rfl, fun _ => rfl, fun _ => rfl, fun _ => rfl, fun _ => rfl, trivial⟩ ?_
            exact hK
          · rw [if_pos hc5] at h
            refine zv_ald hB zd70_37 rfl rfl rfl ?_
            refine zv_dup hB zd70_38 rfl ?_
            refine zv_getf hB zd70_39 rfl rfl (fun _ _ => ?_)
            refine zv_con hB zd70_42 rfl ?_
            refine zv_addw hB zd70_43 ?_
            refine zv_putf hB zd70_44 rfl rfl (fun h => by cases h) rfl ?_
            refine zv_ald hB zd70_47 rfl rfl rfl ?_
            refine zv_getq hB zd70_48 rfl rfl rfl ?_
            refine zv_con hB zd70_51 rfl ?_
            refine zv_con hB zd70_52 rfl ?_
            obtain ⟨r6, hr6, h⟩ := zi_bind h
            refine zv_cv hB (zv_emq (va2 := [.inr 2, .inl 4, .inl 0]) (F := [.inl f0, .inl (zi_w (f1 + 1)), .inl f2, .inr 2, .inl f4]) (F' := [.inl f0, .inl (zi_w (f1 + 1)), .inl f2, .inr 2, .inl r6.2.1]) (G := [g0, g1, g2]) (G' := [g0, r6.2.2.1, r6.2.2.2]) (ρ := [2, 3, 4]) (φ := [4]) (ψ := [1, 2]) [none, none, none, none, some 0] [none, some 0, some 1] zyw_Law_addStep zyw_LawReader_readCondition zye_LawReader_readCondition (by decide +kernel) (zt_Law_addStep hr6) ⟨⟨_, rfl, fun _ => rfl⟩, trivial⟩ ⟨rfl, rfl, trivial⟩ rfl rfl rfl rfl rfl rfl rfl) zd70_53 zxt49 rfl (by show 0 + 1 ≤ 38 + (dp + 1); omega) (by show 8 + (3 + 11) + 60 * (0) ≤ 60 * (38 + (dp + 1)); omega) rfl ?_
            refine zv_ist hB zd70_56 rfl rfl rfl ?_
            refine zv_ald hB zd70_57 rfl rfl rfl ?_
            refine zv_ild hB zd70_58 rfl rfl ?_
            obtain ⟨r7, hr7, h⟩ := zi_bind h
            refine zv_cv hB (show zv_Fn _ _ _ zy_LawReader_readCondition _ _ [.inr 0, .inl x1] [.inl f0, .inl (zi_w (f1 + 1)), .inl f2, .inr 2, .inl r6.2.1] [g0, r6.2.2.1, r6.2.2.2] none [.inl r7.1, .inl r7.2.1, .inl f2, .inr 2, .inl r7.2.2.1] [g0, r7.2.2.2.1, r7.2.2.2.2] from ih2 _ _ _ _ _ _ _ _ r7 hr7) zd70_59 zxt71 rfl (by show 38 + dp + 1 ≤ 38 + (dp + 1); omega) (by show 8 + (3 + 11) + 60 * (38 + dp) ≤ 60 * (38 + (dp + 1)); omega) rfl ?_
            refine zv_ald hB zd70_62 rfl rfl rfl ?_
            refine zv_getq hB zd70_63 rfl rfl rfl ?_
            refine zv_ild hB zd70_66 rfl rfl ?_
            obtain ⟨r8, hr8, h⟩ := zi_bind h
            refine zv_cv hB (zv_emq (va2 := [.inr 2, .inl r6.1]) (F := [.inl r7.1, .inl r7.2.1, .inl f2, .inr 2, .inl r7.2.2.1]) (F' := [.inl r7.1, .inl r7.2.1, .inl f2, .inr 2, .inl r7.2.2.1]) (G := [g0, r7.2.2.2.1, r7.2.2.2.2]) (G' := [g0, r7.2.2.2.1, r8]) (ρ := [2, 4]) (φ := [4]) (ψ := [2]) [none, none, none, none, some 0] [none, none, some 0] zyw_Law_landJump zyw_LawReader_readCondition zye_LawReader_readCondition (by decide +kernel) (zt_Law_landJump hr8) ⟨⟨_, rfl, fun _ => rfl⟩, trivial⟩ ⟨rfl, trivial⟩ rfl rfl rfl rfl rfl rfl rfl) zd70_67 zxt73 rfl (by show 0 + 1 ≤ 38 + (dp + 1); omega) (by show 8 + (2 + 11) + 60 * (0) ≤ 60 * (38 + (dp + 1)); omega) rfl ?_
            refine zv_goto hB zd70_70 rfl ?_
            refine zv_wk hB (L' := [.inr 0, .inl x1, .inr 1000]) (F' := [.inl r7.1, .inl r7.2.1, .inl f2, .inr 2, .inl r7.2.2.1]) ⟨fun _ => rfl, fun _ => rfl, fun (h : zv_is (.inr 1000)) => (Nat.lt_irrefl 1000 h).elim, trivial⟩ ⟨fun _ => rfl, fun _ => rfl, fun _ => rfl, fun _ => rfl, fun _ => rfl, trivial⟩ ?_
            exact ih _ _ _ _ _ _ q h hK
  unfold zm_LawReader_readPart at h
  refine zv_ald hB zd70_0 rfl rfl rfl ?_
  refine zv_ild hB zd70_1 rfl rfl ?_
  obtain ⟨r1, hr1, h⟩ := zi_bind h
  refine zv_cv hB (show zv_Fn _ _ _ zy_LawReader_readCondition _ _ [.inr 0, .inl x1] [.inl f0, .inl f1, .inl f2, .inr 2, .inl f4] [g0, g1, g2] none [.inl r1.1, .inl r1.2.1, .inl f2, .inr 2, .inl r1.2.2.1] [g0, r1.2.2.2.1, r1.2.2.2.2] from ih2 _ _ _ _ _ _ _ _ r1 hr1) zd70_2 zxt71 rfl (by show 38 + dp + 1 ≤ 38 + (dp + 1); omega) (by show 8 + (3 + 11) + 60 * (38 + dp) ≤ 60 * (38 + (dp + 1)); omega) rfl ?_
  obtain ⟨q9, hq9, h⟩ := zi_bind h
  refine l0 _ _ _ _ _ _ _ q9 hq9 ?_
  show good 73 [.inr 1000, .inr 1000, .inr 1000] [] [.inl q9.1, .inl q9.2.1, .inl f2, .inr 2, .inl q9.2.2.1] [g0, q9.2.2.2.1, q9.2.2.2.2]
  have hw := Option.some.inj h
  subst hw
  exact hvret _ _ _ _ zd70_73 trivial ⟨rfl, rfl, rfl⟩
/-! LawReader_readPiece (I)V -/
def zm_LawReader_readPiece (rc : Nat → Int → Int → Int → Int → Int → (Int → Int) → (Int → Int) → (Int → Int) → Option (Int × Int × Int × (Int → Int) × (Int → Int))) (x1 : Int) (f0 : Int) (f1 : Int) (f2 : Int) (f4 : Int) (g0 : (Int → Int)) (g1 : (Int → Int)) (g2 : (Int → Int)) : Option (Int × Int × Int × (Int → Int) × (Int → Int)) := (zf_LawReader_peek f1 f2 g0).bind fun r1 => (if f0 = 0 then (if r1 = 33 then (if x1 < 6 then ((rc 2 (zi_w (x1 + 1)) f0 (zi_w (f1 + 1)) f2 f4 g0 g1 g2).bind fun r6 => ((zf_Law_addStep 2 0 r6.2.2.1 r6.2.2.2.1 r6.2.2.2.2).bind fun r7 => (some (r6.1, r6.2.1, r7.2.1, r7.2.2.1, r7.2.2.2)))) else ((zf_LawReader_fail 5 f0 f1).bind fun r8 => (some (r8, f1, f4, g1, g2)))) else (if r1 = 40 then (if x1 < 6 then ((rc 0 (zi_w (x1 + 1)) f0 (zi_w (f1 + 1)) f2 f4 g0 g1 g2).bind fun r12 => ((zf_LawReader_skip 41 r12.1 r12.2.1 f2 g0).bind fun r13 => (some (r13.1, r13.2, r12.2.2.1, r12.2.2.2.1, r12.2.2.2.2)))) else ((zf_LawReader_fail 5 f0 f1).bind fun r14 => (some (r14, f1, f4, g1, g2)))) else ((zf_LawReader_readComparison x1 f0 f1 f2 f4 g0 g1 g2).bind fun r15 => (some (r15.1, r15.2.1, r15.2.2.1, r15.2.2.2.1, r15.2.2.2.2))))) else (some (f0, f1, f4, g1, g2)))
theorem zd71_0 : decode zxm71.2.1 0 = .ok (.aload_n 0, 1) := by decide +kernel
theorem zd71_1 : decode zxm71.2.1 1 = .ok (.invokevirtual 53, 3) := by decide +kernel
theorem zd71_4 : decode zxm71.2.1 4 = .ok (.istore_n 2, 1) := by decide +kernel
theorem zd71_5 : decode zxm71.2.1 5 = .ok (.aload_n 0, 1) := by decide +kernel
theorem zd71_6 : decode zxm71.2.1 6 = .ok (.getfield 18, 3) := by decide +kernel
theorem zd71_9 : decode zxm71.2.1 9 = .ok (.ifCond .eq 4, 3) := by decide +kernel
theorem zd71_12 : decode zxm71.2.1 12 = .ok (.return_, 1) := by decide +kernel
theorem zd71_13 : decode zxm71.2.1 13 = .ok (.iload_n 2, 1) := by decide +kernel
theorem zd71_14 : decode zxm71.2.1 14 = .ok (.bipush 33, 2) := by decide +kernel
theorem zd71_16 : decode zxm71.2.1 16 = .ok (.if_icmp .eq 17, 3) := by decide +kernel
theorem zd71_19 : decode zxm71.2.1 19 = .ok (.iload_n 2, 1) := by decide +kernel
theorem zd71_20 : decode zxm71.2.1 20 = .ok (.bipush 40, 2) := by decide +kernel
theorem zd71_22 : decode zxm71.2.1 22 = .ok (.if_icmp .eq 11, 3) := by decide +kernel
theorem zd71_25 : decode zxm71.2.1 25 = .ok (.aload_n 0, 1) := by decide +kernel
theorem zd71_26 : decode zxm71.2.1 26 = .ok (.iload_n 1, 1) := by decide +kernel
theorem zd71_27 : decode zxm71.2.1 27 = .ok (.invokevirtual 85, 3) := by decide +kernel
theorem zd71_30 : decode zxm71.2.1 30 = .ok (.goto 76, 3) := by decide +kernel
theorem zd71_33 : decode zxm71.2.1 33 = .ok (.iload_n 1, 1) := by decide +kernel
theorem zd71_34 : decode zxm71.2.1 34 = .ok (.bipush 6, 2) := by decide +kernel
theorem zd71_36 : decode zxm71.2.1 36 = .ok (.if_icmp .lt 11, 3) := by decide +kernel
theorem zd71_39 : decode zxm71.2.1 39 = .ok (.aload_n 0, 1) := by decide +kernel
theorem zd71_40 : decode zxm71.2.1 40 = .ok (.iconst 5, 1) := by decide +kernel
theorem zd71_41 : decode zxm71.2.1 41 = .ok (.invokevirtual 57, 3) := by decide +kernel
theorem zd71_44 : decode zxm71.2.1 44 = .ok (.goto 62, 3) := by decide +kernel
theorem zd71_47 : decode zxm71.2.1 47 = .ok (.iload_n 2, 1) := by decide +kernel
theorem zd71_48 : decode zxm71.2.1 48 = .ok (.bipush 33, 2) := by decide +kernel
theorem zd71_50 : decode zxm71.2.1 50 = .ok (.if_icmp .ne 33, 3) := by decide +kernel
theorem zd71_53 : decode zxm71.2.1 53 = .ok (.aload_n 0, 1) := by decide +kernel
theorem zd71_54 : decode zxm71.2.1 54 = .ok (.dup, 1) := by decide +kernel
theorem zd71_55 : decode zxm71.2.1 55 = .ok (.getfield 15, 3) := by decide +kernel
theorem zd71_58 : decode zxm71.2.1 58 = .ok (.iconst 1, 1) := by decide +kernel
theorem zd71_59 : decode zxm71.2.1 59 = .ok (.iadd, 1) := by decide +kernel
theorem zd71_60 : decode zxm71.2.1 60 = .ok (.putfield 15, 3) := by decide +kernel
theorem zd71_63 : decode zxm71.2.1 63 = .ok (.aload_n 0, 1) := by decide +kernel
theorem zd71_64 : decode zxm71.2.1 64 = .ok (.iload_n 1, 1) := by decide +kernel
theorem zd71_65 : decode zxm71.2.1 65 = .ok (.iconst 1, 1) := by decide +kernel
theorem zd71_66 : decode zxm71.2.1 66 = .ok (.iadd, 1) := by decide +kernel
theorem zd71_67 : decode zxm71.2.1 67 = .ok (.invokevirtual 82, 3) := by decide +kernel
theorem zd71_70 : decode zxm71.2.1 70 = .ok (.aload_n 0, 1) := by decide +kernel
theorem zd71_71 : decode zxm71.2.1 71 = .ok (.getfield 25, 3) := by decide +kernel
theorem zd71_74 : decode zxm71.2.1 74 = .ok (.iconst 2, 1) := by decide +kernel
theorem zd71_75 : decode zxm71.2.1 75 = .ok (.iconst 0, 1) := by decide +kernel
theorem zd71_76 : decode zxm71.2.1 76 = .ok (.invokevirtual 76, 3) := by decide +kernel
theorem zd71_79 : decode zxm71.2.1 79 = .ok (.pop, 1) := by decide +kernel
theorem zd71_80 : decode zxm71.2.1 80 = .ok (.goto 26, 3) := by decide +kernel
theorem zd71_83 : decode zxm71.2.1 83 = .ok (.aload_n 0, 1) := by decide +kernel
theorem zd71_84 : decode zxm71.2.1 84 = .ok (.dup, 1) := by decide +kernel
theorem zd71_85 : decode zxm71.2.1 85 = .ok (.getfield 15, 3) := by decide +kernel
theorem zd71_88 : decode zxm71.2.1 88 = .ok (.iconst 1, 1) := by decide +kernel
theorem zd71_89 : decode zxm71.2.1 89 = .ok (.iadd, 1) := by decide +kernel
theorem zd71_90 : decode zxm71.2.1 90 = .ok (.putfield 15, 3) := by decide +kernel
theorem zd71_93 : decode zxm71.2.1 93 = .ok (.aload_n 0, 1) := by decide +kernel
theorem zd71_94 : decode zxm71.2.1 94 = .ok (.iload_n 1, 1) := by decide +kernel
theorem zd71_95 : decode zxm71.2.1 95 = .ok (.iconst 1, 1) := by decide +kernel
theorem zd71_96 : decode zxm71.2.1 96 = .ok (.iadd, 1) := by decide +kernel
theorem zd71_97 : decode zxm71.2.1 97 = .ok (.invokevirtual 66, 3) := by decide +kernel
theorem zd71_100 : decode zxm71.2.1 100 = .ok (.aload_n 0, 1) := by decide +kernel
theorem zd71_101 : decode zxm71.2.1 101 = .ok (.bipush 41, 2) := by decide +kernel
theorem zd71_103 : decode zxm71.2.1 103 = .ok (.invokevirtual 43, 3) := by decide +kernel
theorem zd71_106 : decode zxm71.2.1 106 = .ok (.return_, 1) := by decide +kernel
theorem zts_LawReader_readPiece {dp : Nat} {rc : Nat → Int → Int → Int → Int → Int → (Int → Int) → (Int → Int) → (Int → Int) → Option (Int × Int × Int × (Int → Int) × (Int → Int))} (ih0 : ∀ (x1 : Int) (f0 : Int) (f1 : Int) (f2 : Int) (f4 : Int) (g0 : (Int → Int)) (g1 : (Int → Int)) (g2 : (Int → Int)) (o : Int × Int × Int × (Int → Int) × (Int → Int)), rc 0 x1 f0 f1 f2 f4 g0 g1 g2 = some o → zv_Fn z_TB z_cl z_KX zy_LawReader_readCondition zxm69 (38 + dp, 60 * (38 + dp)) [.inr 0, .inl x1] [.inl f0, .inl f1, .inl f2, .inr 2, .inl f4] [g0, g1, g2] none [.inl o.1, .inl o.2.1, .inl f2, .inr 2, .inl o.2.2.1] [g0, o.2.2.2.1, o.2.2.2.2]) (ih1 : ∀ (x1 : Int) (f0 : Int) (f1 : Int) (f2 : Int) (f4 : Int) (g0 : (Int → Int)) (g1 : (Int → Int)) (g2 : (Int → Int)) (o : Int × Int × Int × (Int → Int) × (Int → Int)), rc 1 x1 f0 f1 f2 f4 g0 g1 g2 = some o → zv_Fn z_TB z_cl z_KX zy_LawReader_readCondition zxm70 (38 + dp, 60 * (38 + dp)) [.inr 0, .inl x1] [.inl f0, .inl f1, .inl f2, .inr 2, .inl f4] [g0, g1, g2] none [.inl o.1, .inl o.2.1, .inl f2, .inr 2, .inl o.2.2.1] [g0, o.2.2.2.1, o.2.2.2.2]) (ih2 : ∀ (x1 : Int) (f0 : Int) (f1 : Int) (f2 : Int) (f4 : Int) (g0 : (Int → Int)) (g1 : (Int → Int)) (g2 : (Int → Int)) (o : Int × Int × Int × (Int → Int) × (Int → Int)), rc 2 x1 f0 f1 f2 f4 g0 g1 g2 = some o → zv_Fn z_TB z_cl z_KX zy_LawReader_readCondition zxm71 (38 + dp, 60 * (38 + dp)) [.inr 0, .inl x1] [.inl f0, .inl f1, .inl f2, .inr 2, .inl f4] [g0, g1, g2] none [.inl o.1, .inl o.2.1, .inl f2, .inr 2, .inl o.2.2.1] [g0, o.2.2.2.1, o.2.2.2.2]) {x1 : Int} {f0 : Int} {f1 : Int} {f2 : Int} {f4 : Int} {g0 : (Int → Int)} {g1 : (Int → Int)} {g2 : (Int → Int)} {o : Int × Int × Int × (Int → Int) × (Int → Int)} (h : zm_LawReader_readPiece rc x1 f0 f1 f2 f4 g0 g1 g2 = some o) : zv_Fn z_TB z_cl z_KX zy_LawReader_readCondition zxm71 (38 + (dp + 1), 60 * (38 + (dp + 1))) [.inr 0, .inl x1] [.inl f0, .inl f1, .inl f2, .inr 2, .inl f4] [g0, g1, g2] none [.inl o.1, .inl o.2.1, .inl f2, .inr 2, .inl o.2.2.1] [g0, o.2.2.2.1, o.2.2.2.2] := zv_meth (K := (z_KF3, z_KC3, z_KL3, z_KT3, [], [], [], none)) (FT := z_FT) (MT := z_MT) (n := 2) zxp71 (z_ks3 _ (fun _ h => List.mem_cons_of_mem _ h) _ _ _ _ (fun j r h _ => by cases h)) (fun _ _ => zs_KX_p) zyw_LawReader_readCondition (fun va F G h => by obtain ⟨rfl, _⟩ := h; rfl) (fun va F G h => by obtain ⟨rfl, _⟩ := h; rfl) rfl fun good va F G hB hret hvret hP => by
  obtain ⟨rfl, rfl, rfl⟩ := hP
  unfold zm_LawReader_readPiece at h
  refine zv_ald hB zd71_0 rfl rfl rfl ?_
  obtain ⟨r1, hr1, h⟩ := zi_bind h
  refine zv_cv hB (zv_emq (va2 := [.inr 0]) (F := [.inl f0, .inl f1, .inl f2, .inr 2, .inl f4]) (F' := [.inl f0, .inl f1, .inl f2, .inr 2, .inl f4]) (G := [g0, g1, g2]) (G' := [g0, g1, g2]) (ρ := [0, 1]) (φ := [1, 2]) (ψ := [0]) [none, some 0, some 1, none, none] [some 0, none, none] zyw_LawReader_peek zyw_LawReader_readCondition zye_LawReader_readCondition (by decide +kernel) (zt_LawReader_peek hr1) ⟨⟨_, rfl, fun _ => rfl⟩, ⟨_, rfl, fun _ => rfl⟩, trivial⟩ ⟨rfl, trivial⟩ rfl rfl rfl rfl rfl rfl rfl) zd71_1 zxt40 rfl (by show 0 + 1 ≤ 38 + (dp + 1); omega) (by show 8 + (1 + 11) + 60 * (0) ≤ 60 * (38 + (dp + 1)); omega) rfl ?_
  refine zv_ist hB zd71_4 rfl rfl rfl ?_
  refine zv_ald hB zd71_5 rfl rfl rfl ?_
  refine zv_getf hB zd71_6 rfl rfl (fun _ _ => ?_)
  refine zv_zeq hB zd71_9 rfl (fun hc2 => ?_) (fun hc2 => ?_)
  · rw [if_pos hc2] at h
    refine zv_ild hB zd71_13 rfl rfl ?_
    refine zv_con hB zd71_14 rfl ?_
    refine zv_ceq hB zd71_16 rfl (fun hc3 => ?_) (fun hc3 => ?_)
    · rw [if_pos hc3] at h
      refine zv_ild hB zd71_33 rfl rfl ?_
      refine zv_con hB zd71_34 rfl ?_
      refine zv_clt hB zd71_36 rfl (fun hc4 => ?_) (fun hc4 => ?_)
      · rw [if_pos hc4] at h
        refine zv_ild hB zd71_47 rfl rfl ?_
        refine zv_con hB zd71_48 rfl ?_
        refine zv_cne hB zd71_50 rfl (fun hc => absurd hc (by omega)) (fun _ => ?_)
        refine zv_ald hB zd71_53 rfl rfl rfl ?_
        refine zv_dup hB zd71_54 rfl ?_
        refine zv_getf hB zd71_55 rfl rfl (fun _ _ => ?_)
        refine zv_con hB zd71_58 rfl ?_
        refine zv_addw hB zd71_59 ?_
        refine zv_putf hB zd71_60 rfl rfl (fun h => by cases h) rfl ?_
        refine zv_ald hB zd71_63 rfl rfl rfl ?_
        refine zv_ild hB zd71_64 rfl rfl ?_
        refine zv_con hB zd71_65 rfl ?_
        refine zv_addw hB zd71_66 ?_
        obtain ⟨r6, hr6, h⟩ := zi_bind h
        refine zv_cv hB (show zv_Fn _ _ _ zy_LawReader_readCondition _ _ [.inr 0, .inl (zi_w (x1 + 1))] [.inl f0, .inl (zi_w (f1 + 1)), .inl f2, .inr 2, .inl f4] [g0, g1, g2] none [.inl r6.1, .inl r6.2.1, .inl f2, .inr 2, .inl r6.2.2.1] [g0, r6.2.2.2.1, r6.2.2.2.2] from ih2 _ _ _ _ _ _ _ _ r6 hr6) zd71_67 zxt71 rfl (by show 38 + dp + 1 ≤ 38 + (dp + 1); omega) (by show 8 + (3 + 11) + 60 * (38 + dp) ≤ 60 * (38 + (dp + 1)); omega) rfl ?_
        refine zv_ald hB zd71_70 rfl rfl rfl ?_
        refine zv_getq hB zd71_71 rfl rfl rfl ?_
        refine zv_con hB zd71_74 rfl ?_
        refine zv_con hB zd71_75 rfl ?_
        obtain ⟨r7, hr7, h⟩ := zi_bind h
        refine zv_cv hB (zv_emq (va2 := [.inr 2, .inl 2, .inl 0]) (F := [.inl r6.1, .inl r6.2.1, .inl f2, .inr 2, .inl r6.2.2.1]) (F' := [.inl r6.1, .inl r6.2.1, .inl f2, .inr 2, .inl r7.2.1]) (G := [g0, r6.2.2.2.1, r6.2.2.2.2]) (G' := [g0, r7.2.2.1, r7.2.2.2]) (ρ := [2, 3, 4]) (φ := [4]) (ψ := [1, 2]) [none, none, none, none, some 0] [none, some 0, some 1] zyw_Law_addStep zyw_LawReader_readCondition zye_LawReader_readCondition (by decide +kernel) (zt_Law_addStep hr7) ⟨⟨_, rfl, fun _ => rfl⟩, trivial⟩ ⟨rfl, rfl, trivial⟩ rfl rfl rfl rfl rfl rfl rfl) zd71_76 zxt49 rfl (by show 0 + 1 ≤ 38 + (dp + 1); omega) (by show 8 + (3 + 11) + 60 * (0) ≤ 60 * (38 + (dp + 1)); omega) rfl ?_
        refine zv_pop hB zd71_79 rfl ?_
        refine zv_goto hB zd71_80 rfl ?_
        have hw := Option.some.inj h
        subst hw
        exact hvret _ _ _ _ zd71_106 trivial ⟨rfl, rfl, rfl⟩
      · rw [if_neg (Int.not_lt.mpr hc4)] at h
        refine zv_ald hB zd71_39 rfl rfl rfl ?_
        refine zv_con hB zd71_40 rfl ?_
        obtain ⟨r8, hr8, h⟩ := zi_bind h
        refine zv_cv hB (zv_emq (va2 := [.inr 0, .inl 5]) (F := [.inl f0, .inl f1, .inl f2, .inr 2, .inl f4]) (F' := [.inl r8, .inl f1, .inl f2, .inr 2, .inl f4]) (G := [g0, g1, g2]) (G' := [g0, g1, g2]) (ρ := [0]) (φ := [0, 1]) (ψ := []) [some 0, some 1, none, none, none] [none, none, none] zyw_LawReader_fail zyw_LawReader_readCondition zye_LawReader_readCondition (by decide +kernel) (zt_LawReader_fail hr8) ⟨⟨_, rfl, fun _ => rfl⟩, ⟨_, rfl, fun _ => rfl⟩, trivial⟩ trivial rfl rfl rfl rfl rfl rfl rfl) zd71_41 zxt41 rfl (by show 1 + 1 ≤ 38 + (dp + 1); omega) (by show 8 + (2 + 11) + 60 * (1) ≤ 60 * (38 + (dp + 1)); omega) rfl ?_
        refine zv_goto hB zd71_44 rfl ?_
        have hw := Option.some.inj h
        subst hw
        exact hvret _ _ _ _ zd71_106 trivial ⟨rfl, rfl, rfl⟩
    · rw [if_neg hc3] at h
      refine zv_ild hB zd71_19 rfl rfl ?_
      refine zv_con hB zd71_20 rfl ?_
      refine zv_ceq hB zd71_22 rfl (fun hc9 => ?_) (fun hc9 => ?_)
      · rw [if_pos hc9] at h
        refine zv_ild hB zd71_33 rfl rfl ?_
        refine zv_con hB zd71_34 rfl ?_
        refine zv_clt hB zd71_36 rfl (fun hc10 => ?_) (fun hc10 => ?_)
        · rw [if_pos hc10] at h
          refine zv_ild hB zd71_47 rfl rfl ?_
          refine zv_con hB zd71_48 rfl ?_
          refine zv_cne hB zd71_50 rfl (fun _ => ?_) (fun hc => absurd hc (by omega))
          refine zv_ald hB zd71_83 rfl rfl rfl ?_
          refine zv_dup hB zd71_84 rfl ?_
          refine zv_getf hB zd71_85 rfl rfl (fun _ _ => ?_)
          refine zv_con hB zd71_88 rfl ?_
          refine zv_addw hB zd71_89 ?_
          refine zv_putf hB zd71_90 rfl rfl (fun h => by cases h) rfl ?_
          refine zv_ald hB zd71_93 rfl rfl rfl ?_
          refine zv_ild hB zd71_94 rfl rfl ?_
          refine zv_con hB zd71_95 rfl ?_
          refine zv_addw hB zd71_96 ?_
          obtain ⟨r12, hr12, h⟩ := zi_bind h
          refine zv_cv hB (show zv_Fn _ _ _ zy_LawReader_readCondition _ _ [.inr 0, .inl (zi_w (x1 + 1))] [.inl f0, .inl (zi_w (f1 + 1)), .inl f2, .inr 2, .inl f4] [g0, g1, g2] none [.inl r12.1, .inl r12.2.1, .inl f2, .inr 2, .inl r12.2.2.1] [g0, r12.2.2.2.1, r12.2.2.2.2] from ih0 _ _ _ _ _ _ _ _ r12 hr12) zd71_97 zxt69 rfl (by show 38 + dp + 1 ≤ 38 + (dp + 1); omega) (by show 8 + (3 + 11) + 60 * (38 + dp) ≤ 60 * (38 + (dp + 1)); omega) rfl ?_
          refine zv_ald hB zd71_100 rfl rfl rfl ?_
          refine zv_con hB zd71_101 rfl ?_
          obtain ⟨r13, hr13, h⟩ := zi_bind h
          refine zv_cv hB (zv_emq (va2 := [.inr 0, .inl 41]) (F := [.inl r12.1, .inl r12.2.1, .inl f2, .inr 2, .inl r12.2.2.1]) (F' := [.inl r13.1, .inl r13.2, .inl f2, .inr 2, .inl r12.2.2.1]) (G := [g0, r12.2.2.2.1, r12.2.2.2.2]) (G' := [g0, r12.2.2.2.1, r12.2.2.2.2]) (ρ := [0, 1]) (φ := [0, 1, 2]) (ψ := [0]) [some 0, some 1, some 2, none, none] [some 0, none, none] zyw_LawReader_skip zyw_LawReader_readCondition zye_LawReader_readCondition (by decide +kernel) (zt_LawReader_skip hr13) ⟨⟨_, rfl, fun _ => rfl⟩, ⟨_, rfl, fun _ => rfl⟩, ⟨_, rfl, fun _ => rfl⟩, trivial⟩ ⟨rfl, trivial⟩ rfl rfl rfl rfl rfl rfl rfl) zd71_103 zxt46 rfl (by show 2 + 1 ≤ 38 + (dp + 1); omega) (by show 8 + (2 + 11) + 60 * (2) ≤ 60 * (38 + (dp + 1)); omega) rfl ?_
          have hw := Option.some.inj h
          subst hw
          exact hvret _ _ _ _ zd71_106 trivial ⟨rfl, rfl, rfl⟩
        · rw [if_neg (Int.not_lt.mpr hc10)] at h
          refine zv_ald hB zd71_39 rfl rfl rfl ?_
          refine zv_con hB zd71_40 rfl ?_
          obtain ⟨r14, hr14, h⟩ := zi_bind h
          refine zv_cv hB (zv_emq (va2 := [.inr 0, .inl 5]) (F := [.inl f0, .inl f1, .inl f2, .inr 2, .inl f4]) (F' := [.inl r14, .inl f1, .inl f2, .inr 2, .inl f4]) (G := [g0, g1, g2]) (G' := [g0, g1, g2]) (ρ := [0]) (φ := [0, 1]) (ψ := []) [some 0, some 1, none, none, none] [none, none, none] zyw_LawReader_fail zyw_LawReader_readCondition zye_LawReader_readCondition (by decide +kernel) (zt_LawReader_fail hr14) ⟨⟨_, rfl, fun _ => rfl⟩, ⟨_, rfl, fun _ => rfl⟩, trivial⟩ trivial rfl rfl rfl rfl rfl rfl rfl) zd71_41 zxt41 rfl (by show 1 + 1 ≤ 38 + (dp + 1); omega) (by show 8 + (2 + 11) + 60 * (1) ≤ 60 * (38 + (dp + 1)); omega) rfl ?_
          refine zv_goto hB zd71_44 rfl ?_
          have hw := Option.some.inj h
          subst hw
          exact hvret _ _ _ _ zd71_106 trivial ⟨rfl, rfl, rfl⟩
      · rw [if_neg hc9] at h
        refine zv_ald hB zd71_25 rfl rfl rfl ?_
        refine zv_ild hB zd71_26 rfl rfl ?_
        obtain ⟨r15, hr15, h⟩ := zi_bind h
        refine zv_cv hB (zv_emq (va2 := [.inr 0, .inl x1]) (F := [.inl f0, .inl f1, .inl f2, .inr 2, .inl f4]) (F' := [.inl r15.1, .inl r15.2.1, .inl f2, .inr 2, .inl r15.2.2.1]) (G := [g0, g1, g2]) (G' := [g0, r15.2.2.2.1, r15.2.2.2.2]) (ρ := [0, 1, 2, 3, 4]) (φ := [3, 0, 1, 2, 4]) (ψ := [0, 1, 2]) [some 1, some 2, some 3, some 0, some 4] [some 0, some 1, some 2] zyw_LawReader_readComparison zyw_LawReader_readCondition zye_LawReader_readCondition (by decide +kernel) (zt_LawReader_readComparison hr15) ⟨⟨_, rfl, fun _ => rfl⟩, ⟨_, rfl, fun _ => rfl⟩, ⟨_, rfl, fun _ => rfl⟩, ⟨_, rfl, fun _ => rfl⟩, ⟨_, rfl, fun _ => rfl⟩, trivial⟩ ⟨rfl, rfl, rfl, trivial⟩ rfl rfl rfl rfl rfl rfl rfl) zd71_27 zxt72 rfl (by show 37 + 1 ≤ 38 + (dp + 1); omega) (by show 8 + (3 + 11) + 60 * (37) ≤ 60 * (38 + (dp + 1)); omega) rfl ?_
        refine zv_goto hB zd71_30 rfl ?_
        have hw := Option.some.inj h
        subst hw
        exact hvret _ _ _ _ zd71_106 trivial ⟨rfl, rfl, rfl⟩
  · rw [if_neg hc2] at h
    have hw := Option.some.inj h
    subst hw
    exact hvret _ _ _ _ zd71_12 trivial ⟨rfl, rfl, rfl⟩
def zg_LawReader_readCondition : Nat → Nat → Int → Int → Int → Int → Int → (Int → Int) → (Int → Int) → (Int → Int) → Option (Int × Int × Int × (Int → Int) × (Int → Int))
  | 0, _, _, _, _, _, _, _, _, _ => none
  | n + 1, 0, x1, f0, f1, f2, f4, g0, g1, g2 => zm_LawReader_readCondition (zg_LawReader_readCondition n) x1 f0 f1 f2 f4 g0 g1 g2
  | n + 1, 1, x1, f0, f1, f2, f4, g0, g1, g2 => zm_LawReader_readPart (zg_LawReader_readCondition n) x1 f0 f1 f2 f4 g0 g1 g2
  | n + 1, _, x1, f0, f1, f2, f4, g0, g1, g2 => zm_LawReader_readPiece (zg_LawReader_readCondition n) x1 f0 f1 f2 f4 g0 g1 g2
theorem ztg_LawReader_readCondition : ∀ n : Nat, (∀ (x1 : Int) (f0 : Int) (f1 : Int) (f2 : Int) (f4 : Int) (g0 : (Int → Int)) (g1 : (Int → Int)) (g2 : (Int → Int)) (o : Int × Int × Int × (Int → Int) × (Int → Int)), zg_LawReader_readCondition n 0 x1 f0 f1 f2 f4 g0 g1 g2 = some o → zv_Fn z_TB z_cl z_KX zy_LawReader_readCondition zxm69 (38 + n, 60 * (38 + n)) [.inr 0, .inl x1] [.inl f0, .inl f1, .inl f2, .inr 2, .inl f4] [g0, g1, g2] none [.inl o.1, .inl o.2.1, .inl f2, .inr 2, .inl o.2.2.1] [g0, o.2.2.2.1, o.2.2.2.2]) ∧ (∀ (x1 : Int) (f0 : Int) (f1 : Int) (f2 : Int) (f4 : Int) (g0 : (Int → Int)) (g1 : (Int → Int)) (g2 : (Int → Int)) (o : Int × Int × Int × (Int → Int) × (Int → Int)), zg_LawReader_readCondition n 1 x1 f0 f1 f2 f4 g0 g1 g2 = some o → zv_Fn z_TB z_cl z_KX zy_LawReader_readCondition zxm70 (38 + n, 60 * (38 + n)) [.inr 0, .inl x1] [.inl f0, .inl f1, .inl f2, .inr 2, .inl f4] [g0, g1, g2] none [.inl o.1, .inl o.2.1, .inl f2, .inr 2, .inl o.2.2.1] [g0, o.2.2.2.1, o.2.2.2.2]) ∧ (∀ (x1 : Int) (f0 : Int) (f1 : Int) (f2 : Int) (f4 : Int) (g0 : (Int → Int)) (g1 : (Int → Int)) (g2 : (Int → Int)) (o : Int × Int × Int × (Int → Int) × (Int → Int)), zg_LawReader_readCondition n 2 x1 f0 f1 f2 f4 g0 g1 g2 = some o → zv_Fn z_TB z_cl z_KX zy_LawReader_readCondition zxm71 (38 + n, 60 * (38 + n)) [.inr 0, .inl x1] [.inl f0, .inl f1, .inl f2, .inr 2, .inl f4] [g0, g1, g2] none [.inl o.1, .inl o.2.1, .inl f2, .inr 2, .inl o.2.2.1] [g0, o.2.2.2.1, o.2.2.2.2]) := by
  intro n
  induction n with
  | zero => exact ⟨fun _ _ _ _ _ _ _ _ o h => absurd (show none = some o from h) (fun h => by cases h), fun _ _ _ _ _ _ _ _ o h => absurd (show none = some o from h) (fun h => by cases h), fun _ _ _ _ _ _ _ _ o h => absurd (show none = some o from h) (fun h => by cases h)⟩
  | succ n ih =>
    obtain ⟨ih0, ih1, ih2⟩ := ih
    exact ⟨fun _ _ _ _ _ _ _ _ o h => zts_LawReader_readCondition (rc := zg_LawReader_readCondition n) ih0 ih1 ih2 h, fun _ _ _ _ _ _ _ _ o h => zts_LawReader_readPart (rc := zg_LawReader_readCondition n) ih0 ih1 ih2 h, fun _ _ _ _ _ _ _ _ o h => zts_LawReader_readPiece (rc := zg_LawReader_readCondition n) ih0 ih1 ih2 h⟩
def zf_LawReader_readCondition (x1 : Int) (f0 : Int) (f1 : Int) (f2 : Int) (f4 : Int) (g0 : (Int → Int)) (g1 : (Int → Int)) (g2 : (Int → Int)) : Option (Int × Int × Int × (Int → Int) × (Int → Int)) := zg_LawReader_readCondition 40 0 x1 f0 f1 f2 f4 g0 g1 g2
theorem zt_LawReader_readCondition {x1 : Int} {f0 : Int} {f1 : Int} {f2 : Int} {f4 : Int} {g0 : (Int → Int)} {g1 : (Int → Int)} {g2 : (Int → Int)} {o : Int × Int × Int × (Int → Int) × (Int → Int)} (h : zf_LawReader_readCondition x1 f0 f1 f2 f4 g0 g1 g2 = some o) : zv_Fn z_TB z_cl z_KX zy_LawReader_readCondition zxm69 (78, 4680) [.inr 0, .inl x1] [.inl f0, .inl f1, .inl f2, .inr 2, .inl f4] [g0, g1, g2] none [.inl o.1, .inl o.2.1, .inl f2, .inr 2, .inl o.2.2.1] [g0, o.2.2.2.1, o.2.2.2.2] := (ztg_LawReader_readCondition 40).1 _ _ _ _ _ _ _ _ o h
def zf_LawReader_readPart (x1 : Int) (f0 : Int) (f1 : Int) (f2 : Int) (f4 : Int) (g0 : (Int → Int)) (g1 : (Int → Int)) (g2 : (Int → Int)) : Option (Int × Int × Int × (Int → Int) × (Int → Int)) := zg_LawReader_readCondition 40 1 x1 f0 f1 f2 f4 g0 g1 g2
theorem zt_LawReader_readPart {x1 : Int} {f0 : Int} {f1 : Int} {f2 : Int} {f4 : Int} {g0 : (Int → Int)} {g1 : (Int → Int)} {g2 : (Int → Int)} {o : Int × Int × Int × (Int → Int) × (Int → Int)} (h : zf_LawReader_readPart x1 f0 f1 f2 f4 g0 g1 g2 = some o) : zv_Fn z_TB z_cl z_KX zy_LawReader_readCondition zxm70 (78, 4680) [.inr 0, .inl x1] [.inl f0, .inl f1, .inl f2, .inr 2, .inl f4] [g0, g1, g2] none [.inl o.1, .inl o.2.1, .inl f2, .inr 2, .inl o.2.2.1] [g0, o.2.2.2.1, o.2.2.2.2] := (ztg_LawReader_readCondition 40).2.1 _ _ _ _ _ _ _ _ o h
def zf_LawReader_readPiece (x1 : Int) (f0 : Int) (f1 : Int) (f2 : Int) (f4 : Int) (g0 : (Int → Int)) (g1 : (Int → Int)) (g2 : (Int → Int)) : Option (Int × Int × Int × (Int → Int) × (Int → Int)) := zg_LawReader_readCondition 40 2 x1 f0 f1 f2 f4 g0 g1 g2
theorem zt_LawReader_readPiece {x1 : Int} {f0 : Int} {f1 : Int} {f2 : Int} {f4 : Int} {g0 : (Int → Int)} {g1 : (Int → Int)} {g2 : (Int → Int)} {o : Int × Int × Int × (Int → Int) × (Int → Int)} (h : zf_LawReader_readPiece x1 f0 f1 f2 f4 g0 g1 g2 = some o) : zv_Fn z_TB z_cl z_KX zy_LawReader_readCondition zxm71 (78, 4680) [.inr 0, .inl x1] [.inl f0, .inl f1, .inl f2, .inr 2, .inl f4] [g0, g1, g2] none [.inl o.1, .inl o.2.1, .inl f2, .inr 2, .inl o.2.2.1] [g0, o.2.2.2.1, o.2.2.2.2] := (ztg_LawReader_readCondition 40).2.2 _ _ _ _ _ _ _ _ o h
/-! Law_hasLetter (II)Z -/
-- names: 0 Law('arg', 0), 1 (0, 200)(0, 4, 0), 2 (0, 200)(0, 4, 1)
-- fields: f0 = 0.steps_; arrays: g0 = 1, g1 = 2; out: [('ret', None)]
abbrev zy_Law_hasLetter : zNL := (3, [(0, 4)], [(0, 4, 2, 0)], [(0, 4, 0, 1), (0, 4, 1, 2)], [(1, 0, 200, 0), (2, 0, 200, 1)])
theorem zyw_Law_hasLetter : zv_wf zy_Law_hasLetter = true := by decide +kernel
theorem zye_Law_hasLetter : zv_ek2 zy_Law_hasLetter = true := by decide +kernel
def zf_Law_hasLetter_l0_b (x2 : Int) (f0 : Int) (g0 : (Int → Int)) (g1 : (Int → Int)) (rec : Int → Option (((Unit) ⊕ (Int)))) (x3 : Int) : Option (((Unit) ⊕ (Int))) := if x3 < f0 then (cond (zi_ix x3 200) (if (g0 x3) = 1 then (if (g1 x3) = x2 then (some (.inr 1)) else (rec (zi_w (x3 + 1)))) else (rec (zi_w (x3 + 1)))) none) else (some (.inl ()))
def zf_Law_hasLetter_l0 (x2 : Int) (f0 : Int) (g0 : (Int → Int)) (g1 : (Int → Int)) : Nat → Int → Option (((Unit) ⊕ (Int)))
  | 0, _ => none
  | n + 1, x3 => zf_Law_hasLetter_l0_b x2 f0 g0 g1 (zf_Law_hasLetter_l0 x2 f0 g0 g1 n) x3
def zf_Law_hasLetter (x1 : Int) (x2 : Int) (f0 : Int) (g0 : (Int → Int)) (g1 : (Int → Int)) : Option (Int) := (zf_Law_hasLetter_l0 x2 f0 g0 g1 zi_fu x1).bind fun q5 => Sum.elim (fun e6 => (some 0)) (fun w7 => some w7) q5
theorem zd75_0 : decode zxm75.2.1 0 = .ok (.iload_n 1, 1) := by decide +kernel
theorem zd75_1 : decode zxm75.2.1 1 = .ok (.istore_n 3, 1) := by decide +kernel
theorem zd75_2 : decode zxm75.2.1 2 = .ok (.iload_n 3, 1) := by decide +kernel
theorem zd75_3 : decode zxm75.2.1 3 = .ok (.aload_n 0, 1) := by decide +kernel
theorem zd75_4 : decode zxm75.2.1 4 = .ok (.getfield 16, 3) := by decide +kernel
theorem zd75_7 : decode zxm75.2.1 7 = .ok (.if_icmp .ge 31, 3) := by decide +kernel
theorem zd75_10 : decode zxm75.2.1 10 = .ok (.aload_n 0, 1) := by decide +kernel
theorem zd75_11 : decode zxm75.2.1 11 = .ok (.getfield 9, 3) := by decide +kernel
theorem zd75_14 : decode zxm75.2.1 14 = .ok (.iload_n 3, 1) := by decide +kernel
theorem zd75_15 : decode zxm75.2.1 15 = .ok (.iaload, 1) := by decide +kernel
theorem zd75_16 : decode zxm75.2.1 16 = .ok (.iconst 1, 1) := by decide +kernel
theorem zd75_17 : decode zxm75.2.1 17 = .ok (.if_icmp .ne 15, 3) := by decide +kernel
theorem zd75_20 : decode zxm75.2.1 20 = .ok (.aload_n 0, 1) := by decide +kernel
theorem zd75_21 : decode zxm75.2.1 21 = .ok (.getfield 13, 3) := by decide +kernel
theorem zd75_24 : decode zxm75.2.1 24 = .ok (.iload_n 3, 1) := by decide +kernel
theorem zd75_25 : decode zxm75.2.1 25 = .ok (.iaload, 1) := by decide +kernel
theorem zd75_26 : decode zxm75.2.1 26 = .ok (.iload_n 2, 1) := by decide +kernel
theorem zd75_27 : decode zxm75.2.1 27 = .ok (.if_icmp .ne 5, 3) := by decide +kernel
theorem zd75_30 : decode zxm75.2.1 30 = .ok (.iconst 1, 1) := by decide +kernel
theorem zd75_31 : decode zxm75.2.1 31 = .ok (.ireturn, 1) := by decide +kernel
theorem zd75_32 : decode zxm75.2.1 32 = .ok (.iinc 3 1, 3) := by decide +kernel
theorem zd75_35 : decode zxm75.2.1 35 = .ok (.goto (-33), 3) := by decide +kernel
theorem zd75_38 : decode zxm75.2.1 38 = .ok (.iconst 0, 1) := by decide +kernel
theorem zd75_39 : decode zxm75.2.1 39 = .ok (.ireturn, 1) := by decide +kernel
theorem zt_Law_hasLetter {x1 : Int} {x2 : Int} {f0 : Int} {g0 : (Int → Int)} {g1 : (Int → Int)} {o : Int} (h : zf_Law_hasLetter x1 x2 f0 g0 g1 = some o) : zv_Fn z_TB z_cl z_KX zy_Law_hasLetter zxm75 (0, 0) [.inr 0, .inl x1, .inl x2] [.inl f0] [g0, g1] (some o) [.inl f0] [g0, g1] := zv_meth (K := (z_KF2, z_KC2, z_KL2, z_KT2, [], [], [], none)) (FT := z_FT) (MT := z_MT) (n := 3) zxp75 (z_ks2 _ (fun _ h => List.mem_cons_of_mem _ h) _ _ _ _ (fun j r h _ => by cases h)) (fun _ _ => zs_KX_p) zyw_Law_hasLetter (fun va F G h => by obtain ⟨rfl, _⟩ := h; rfl) (fun va F G h => by obtain ⟨rfl, _⟩ := h; rfl) rfl fun good va F G hB hret hvret hP => by
  obtain ⟨rfl, rfl, rfl⟩ := hP
  have l0 : ∀ (n : Nat) (x2 : Int) (x3 : Int) (q : ((Unit) ⊕ (Int))), zf_Law_hasLetter_l0 x2 f0 g0 g1 n x3 = some q → (Sum.elim (fun e : Unit => good 38 [.inr 1000, .inr 1000, .inr 1000, .inr 1000] [] [.inl f0] [g0, g1]) (fun w : Int => w = o) q) → good 2 [.inr 0, .inr 1000, .inl x2, .inl x3] [] [.inl f0] [g0, g1] := by
    intro n
    induction n with
    | zero => intro x2 x3 q h; exact absurd (show none = some q from h) (fun h => by cases h)
    | succ n ih =>
      intro x2 x3 q h hK
      replace h : zf_Law_hasLetter_l0_b x2 f0 g0 g1 (zf_Law_hasLetter_l0 x2 f0 g0 g1 n) x3 = some q := h
      unfold zf_Law_hasLetter_l0_b at h
      refine zv_ild hB zd75_2 rfl rfl ?_
      refine zv_ald hB zd75_3 rfl rfl rfl ?_
      refine zv_getf hB zd75_4 rfl rfl (fun _ _ => ?_)
      refine zv_cge hB zd75_7 rfl (fun hc1 => ?_) (fun hc1 => ?_)
      · rw [if_neg (Int.not_lt.mpr hc1)] at h
        have hq := Option.some.inj h
        subst hq
        refine zv_wk hB (L' := [.inr 1000, .inr 1000, .inr 1000, .inr 1000]) (F' := [.inl f0]) ⟨fun (h : zv_is (.inr 1000)) => (Nat.lt_irrefl 1000 h).elim, fun (h : zv_is (.inr 1000)) => (Nat.lt_irrefl 1000 h).elim, fun (h : zv_is (.inr 1000)) => (Nat.lt_irrefl 1000 h).elim, fun (h : zv_is (.inr 1000)) => (Nat.lt_irrefl 1000 h).elim, trivial⟩ ⟨fun _ => rfl, trivial⟩ ?_
        exact hK
      · rw [if_pos hc1] at h
        refine zv_ald hB zd75_10 rfl rfl rfl ?_
        refine zv_getr hB zd75_11 rfl ?_
        refine zv_ild hB zd75_14 rfl rfl ?_
        obtain ⟨c2, h⟩ := zi_if h
        refine zv_iald hB zd75_15 rfl rfl (zi_ix_ok c2).1 (zi_ix_ok c2).2 (fun _ _ => ?_)
        refine zv_con hB zd75_16 rfl ?_
        refine zv_cne hB zd75_17 rfl (fun hc3 => ?_) (fun hc3 => ?_)
        · rw [if_neg hc3] at h
          refine zv_iincw hB zd75_32 rfl rfl ?_
          refine zv_goto hB zd75_35 rfl ?_
          exact ih _ _ q h hK
        · rw [if_pos hc3] at h
          refine zv_ald hB zd75_20 rfl rfl rfl ?_
          refine zv_getr hB zd75_21 rfl ?_
          refine zv_ild hB zd75_24 rfl rfl ?_
          refine zv_iald hB zd75_25 rfl rfl (zi_ix_ok c2).1 (zi_ix_ok c2).2 (fun _ _ => ?_)
          refine zv_ild hB zd75_26 rfl rfl ?_
          refine zv_cne hB zd75_27 rfl (fun hc4 => ?_) (fun hc4 => ?_)
          · rw [if_neg hc4] at h
            refine zv_iincw hB zd75_32 rfl rfl ?_
            refine zv_goto hB zd75_35 rfl ?_
            exact ih _ _ q h hK
          · rw [if_pos hc4] at h
            refine zv_con hB zd75_30 rfl ?_
            have hw : 1 = o := zi_rk (Option.some.inj h) hK
            subst hw
            exact hret _ _ _ _ _ zd75_31 (by constructor <;> decide) ⟨rfl, rfl, rfl⟩
  unfold zf_Law_hasLetter at h
  refine zv_ild hB zd75_0 rfl rfl ?_
  refine zv_ist hB zd75_1 rfl rfl rfl ?_
  obtain ⟨q5, hq5, h⟩ := zi_bind h
  refine zv_wk hB (L' := [.inr 0, .inr 1000, .inl x2, .inl x1]) (F' := [.inl f0]) ⟨fun _ => rfl, fun (h : zv_is (.inr 1000)) => (Nat.lt_irrefl 1000 h).elim, fun _ => rfl, fun _ => rfl, trivial⟩ ⟨fun _ => rfl, trivial⟩ ?_
  refine l0 _ _ _ q5 hq5 ?_
  rcases q5 with e6 | w7
  · replace h := zi_sl h
    show good 38 [.inr 1000, .inr 1000, .inr 1000, .inr 1000] [] [.inl f0] [g0, g1]
    refine zv_con hB zd75_38 rfl ?_
    have hw := Option.some.inj h
    subst hw
    exact hret _ _ _ _ _ zd75_39 (by constructor <;> decide) ⟨rfl, rfl, rfl⟩
  · exact Option.some.inj h
