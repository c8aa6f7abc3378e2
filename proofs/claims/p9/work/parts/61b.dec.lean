/-! Methods as functions, and that they do what these do. -/
/-! Chooser_weighStars (LStarTales$Sky;LStarTales$Law;)V -/
-- names: 0 Chooser('arg', 0), 1 Sky('arg', 1), 2 Law('arg', 2), 3 (0, 13)(2, 4, 12), 4 (0, 24)(0, 11, 3), 5 (0, 24)(0, 11, 4), 6 (0, 24)(1, 1, 3), 7 (0, 24)(1, 1, 2), 8 (0, 24)(1, 1, 1), 9 (0, 14)(2, 4, 3), 10 (0, 14)(2, 4, 5), 11 (0, 14)(2, 4, 6), 12 (0, 200)(2, 4, 0), 13 (0, 40)(2, 4, 13), 14 (0, 200)(2, 4, 1), 15 (0, 14)(2, 4, 4)
-- fields: f0 = 1.hour_, f1 = 1.night_, f2 = 1.told_, f3 = 2.clauses_, f4 = 2.answer_; arrays: g0 = 3, g1 = 4, g2 = 5, g3 = 6, g4 = 7, g5 = 8, g6 = 9, g7 = 10, g8 = 11, g9 = 12, g10 = 13, g11 = 14, g12 = 15; out: [('f', 4), ('g', 0), ('g', 1), ('g', 2), ('g', 10)]
abbrev zy_Chooser_weighStars : zNL := (16, [(0, 11), (1, 1), (2, 4)], [(1, 1, 6, 0), (1, 1, 7, 1), (1, 1, 0, 2), (2, 4, 7, 3), (2, 4, 14, 4)], [(2, 4, 12, 3), (0, 11, 3, 4), (0, 11, 4, 5), (1, 1, 3, 6), (1, 1, 2, 7), (1, 1, 1, 8), (2, 4, 3, 9), (2, 4, 5, 10), (2, 4, 6, 11), (2, 4, 0, 12), (2, 4, 13, 13), (2, 4, 1, 14), (2, 4, 4, 15)], [(3, 0, 13, 0), (4, 0, 24, 1), (5, 0, 24, 2), (6, 0, 24, 3), (7, 0, 24, 4), (8, 0, 24, 5), (9, 0, 14, 6), (10, 0, 14, 7), (11, 0, 14, 8), (12, 0, 200, 9), (13, 0, 40, 10), (14, 0, 200, 11), (15, 0, 14, 12)])
theorem zyw_Chooser_weighStars : zv_wf zy_Chooser_weighStars = true := by decide +kernel
theorem zye_Chooser_weighStars : zv_ek2 zy_Chooser_weighStars = true := by decide +kernel
def zf_Chooser_weighStars_l0_b (f0 : Int) (f2 : Int) (f3 : Int) (g3 : (Int → Int)) (g4 : (Int → Int)) (g5 : (Int → Int)) (g6 : (Int → Int)) (g7 : (Int → Int)) (g8 : (Int → Int)) (g9 : (Int → Int)) (g11 : (Int → Int)) (g12 : (Int → Int)) (rec : Int → Int → (Int → Int) → (Int → Int) → (Int → Int) → (Int → Int) → Option (Int × (Int → Int) × (Int → Int) × (Int → Int) × (Int → Int))) (x3 : Int) (f4 : Int) (g0 : (Int → Int)) (g1 : (Int → Int)) (g2 : (Int → Int)) (g10 : (Int → Int)) : Option (Int × (Int → Int) × (Int → Int) × (Int → Int) × (Int → Int)) := if x3 < 24 then (cond (zi_ix x3 24) ((zf_Sky_hasStar x3 f2).bind fun r5 => (if r5 = 0 then (rec (zi_w (x3 + 1)) f4 g0 (zv_up g1 x3 0) (zv_up g2 x3 0) g10) else ((zf_Law_setStar x3 f0 g0 g3 g4 g5).bind fun r7 => ((zf_Law_amount 119 999 f3 f4 g6 g7 g8 g9 g10 g11 r7 g12).bind fun r8 => ((zf_Law_amount 103 99 f3 r8.2.1 g6 g7 g8 g9 r8.2.2 g11 r7 g12).bind fun r9 => (rec (zi_w (x3 + 1)) r9.2.1 r7 (zv_up (zv_up g1 x3 0) x3 r8.1) (zv_up (zv_up g2 x3 0) x3 r9.1) r9.2.2)))))) none) else (some (f4, g0, g1, g2, g10))
def zf_Chooser_weighStars_l0 (f0 : Int) (f2 : Int) (f3 : Int) (g3 : (Int → Int)) (g4 : (Int → Int)) (g5 : (Int → Int)) (g6 : (Int → Int)) (g7 : (Int → Int)) (g8 : (Int → Int)) (g9 : (Int → Int)) (g11 : (Int → Int)) (g12 : (Int → Int)) : Nat → Int → Int → (Int → Int) → (Int → Int) → (Int → Int) → (Int → Int) → Option (Int × (Int → Int) × (Int → Int) × (Int → Int) × (Int → Int))
  | 0, _, _, _, _, _, _ => none
  | n + 1, x3, f4, g0, g1, g2, g10 => zf_Chooser_weighStars_l0_b f0 f2 f3 g3 g4 g5 g6 g7 g8 g9 g11 g12 (zf_Chooser_weighStars_l0 f0 f2 f3 g3 g4 g5 g6 g7 g8 g9 g11 g12 n) x3 f4 g0 g1 g2 g10
def zf_Chooser_weighStars (f0 : Int) (f1 : Int) (f2 : Int) (f3 : Int) (f4 : Int) (g0 : (Int → Int)) (g1 : (Int → Int)) (g2 : (Int → Int)) (g3 : (Int → Int)) (g4 : (Int → Int)) (g5 : (Int → Int)) (g6 : (Int → Int)) (g7 : (Int → Int)) (g8 : (Int → Int)) (g9 : (Int → Int)) (g10 : (Int → Int)) (g11 : (Int → Int)) (g12 : (Int → Int)) : Option (Int × (Int → Int) × (Int → Int) × (Int → Int) × (Int → Int)) := (zf_Law_forgetLetters g0).bind fun r1 => ((zf_Law_setTime f0 f1 r1).bind fun r2 => ((zf_Chooser_weighStars_l0 f0 f2 f3 g3 g4 g5 g6 g7 g8 g9 g11 g12 zi_fu 0 f4 r2 g1 g2 g10).bind fun q10 => (some (q10.1, q10.2.1, q10.2.2.1, q10.2.2.2.1, q10.2.2.2.2))))
theorem zd145_0 : decode zxm145.2.1 0 = .ok (.aload_n 2, 1) := by decide +kernel
theorem zd145_1 : decode zxm145.2.1 1 = .ok (.invokevirtual 52, 3) := by decide +kernel
theorem zd145_4 : decode zxm145.2.1 4 = .ok (.aload_n 2, 1) := by decide +kernel
theorem zd145_5 : decode zxm145.2.1 5 = .ok (.aload_n 1, 1) := by decide +kernel
theorem zd145_6 : decode zxm145.2.1 6 = .ok (.invokevirtual 57, 3) := by decide +kernel
theorem zd145_9 : decode zxm145.2.1 9 = .ok (.iconst 0, 1) := by decide +kernel
theorem zd145_10 : decode zxm145.2.1 10 = .ok (.istore_n 3, 1) := by decide +kernel
theorem zd145_11 : decode zxm145.2.1 11 = .ok (.iload_n 3, 1) := by decide +kernel
theorem zd145_12 : decode zxm145.2.1 12 = .ok (.bipush 24, 2) := by decide +kernel
theorem zd145_14 : decode zxm145.2.1 14 = .ok (.if_icmp .ge 66, 3) := by decide +kernel
theorem zd145_17 : decode zxm145.2.1 17 = .ok (.aload_n 0, 1) := by decide +kernel
theorem zd145_18 : decode zxm145.2.1 18 = .ok (.getfield 21, 3) := by decide +kernel
theorem zd145_21 : decode zxm145.2.1 21 = .ok (.iload_n 3, 1) := by decide +kernel
theorem zd145_22 : decode zxm145.2.1 22 = .ok (.iconst 0, 1) := by decide +kernel
theorem zd145_23 : decode zxm145.2.1 23 = .ok (.iastore, 1) := by decide +kernel
theorem zd145_24 : decode zxm145.2.1 24 = .ok (.aload_n 0, 1) := by decide +kernel
theorem zd145_25 : decode zxm145.2.1 25 = .ok (.getfield 24, 3) := by decide +kernel
theorem zd145_28 : decode zxm145.2.1 28 = .ok (.iload_n 3, 1) := by decide +kernel
theorem zd145_29 : decode zxm145.2.1 29 = .ok (.iconst 0, 1) := by decide +kernel
theorem zd145_30 : decode zxm145.2.1 30 = .ok (.iastore, 1) := by decide +kernel
theorem zd145_31 : decode zxm145.2.1 31 = .ok (.aload_n 1, 1) := by decide +kernel
theorem zd145_32 : decode zxm145.2.1 32 = .ok (.iload_n 3, 1) := by decide +kernel
theorem zd145_33 : decode zxm145.2.1 33 = .ok (.invokevirtual 61, 3) := by decide +kernel
theorem zd145_36 : decode zxm145.2.1 36 = .ok (.ifCond .eq 38, 3) := by decide +kernel
theorem zd145_39 : decode zxm145.2.1 39 = .ok (.aload_n 2, 1) := by decide +kernel
theorem zd145_40 : decode zxm145.2.1 40 = .ok (.aload_n 1, 1) := by decide +kernel
theorem zd145_41 : decode zxm145.2.1 41 = .ok (.iload_n 3, 1) := by decide +kernel
theorem zd145_42 : decode zxm145.2.1 42 = .ok (.invokevirtual 67, 3) := by decide +kernel
theorem zd145_45 : decode zxm145.2.1 45 = .ok (.aload_n 0, 1) := by decide +kernel
theorem zd145_46 : decode zxm145.2.1 46 = .ok (.getfield 21, 3) := by decide +kernel
theorem zd145_49 : decode zxm145.2.1 49 = .ok (.iload_n 3, 1) := by decide +kernel
theorem zd145_50 : decode zxm145.2.1 50 = .ok (.aload_n 2, 1) := by decide +kernel
theorem zd145_51 : decode zxm145.2.1 51 = .ok (.bipush 119, 2) := by decide +kernel
theorem zd145_53 : decode zxm145.2.1 53 = .ok (.sipush 999, 3) := by decide +kernel
theorem zd145_56 : decode zxm145.2.1 56 = .ok (.invokevirtual 71, 3) := by decide +kernel
theorem zd145_59 : decode zxm145.2.1 59 = .ok (.iastore, 1) := by decide +kernel
theorem zd145_60 : decode zxm145.2.1 60 = .ok (.aload_n 0, 1) := by decide +kernel
theorem zd145_61 : decode zxm145.2.1 61 = .ok (.getfield 24, 3) := by decide +kernel
theorem zd145_64 : decode zxm145.2.1 64 = .ok (.iload_n 3, 1) := by decide +kernel
theorem zd145_65 : decode zxm145.2.1 65 = .ok (.aload_n 2, 1) := by decide +kernel
theorem zd145_66 : decode zxm145.2.1 66 = .ok (.bipush 103, 2) := by decide +kernel
theorem zd145_68 : decode zxm145.2.1 68 = .ok (.bipush 99, 2) := by decide +kernel
theorem zd145_70 : decode zxm145.2.1 70 = .ok (.invokevirtual 71, 3) := by decide +kernel
theorem zd145_73 : decode zxm145.2.1 73 = .ok (.iastore, 1) := by decide +kernel
theorem zd145_74 : decode zxm145.2.1 74 = .ok (.iinc 3 1, 3) := by decide +kernel
theorem zd145_77 : decode zxm145.2.1 77 = .ok (.goto (-66), 3) := by decide +kernel
theorem zd145_80 : decode zxm145.2.1 80 = .ok (.return_, 1) := by decide +kernel
theorem zt_Chooser_weighStars {f0 : Int} {f1 : Int} {f2 : Int} {f3 : Int} {f4 : Int} {g0 : (Int → Int)} {g1 : (Int → Int)} {g2 : (Int → Int)} {g3 : (Int → Int)} {g4 : (Int → Int)} {g5 : (Int → Int)} {g6 : (Int → Int)} {g7 : (Int → Int)} {g8 : (Int → Int)} {g9 : (Int → Int)} {g10 : (Int → Int)} {g11 : (Int → Int)} {g12 : (Int → Int)} {o : Int × (Int → Int) × (Int → Int) × (Int → Int) × (Int → Int)} (h : zf_Chooser_weighStars f0 f1 f2 f3 f4 g0 g1 g2 g3 g4 g5 g6 g7 g8 g9 g10 g11 g12 = some o) : zv_Fn z_TB z_cl z_KX zy_Chooser_weighStars zxm145 (3, 180) [.inr 0, .inr 1, .inr 2] [.inl f0, .inl f1, .inl f2, .inl f3, .inl f4] [g0, g1, g2, g3, g4, g5, g6, g7, g8, g9, g10, g11, g12] none [.inl f0, .inl f1, .inl f2, .inl f3, .inl o.1] [o.2.1, o.2.2.1, o.2.2.2.1, g3, g4, g5, g6, g7, g8, g9, o.2.2.2.2, g11, g12] := zv_meth (K := (z_KF1, z_KC1, z_KL1, z_KT1, [], [], [], none)) (FT := z_FT) (MT := z_MT) (n := 3) zxp145 (z_ks1 _ (fun _ h => List.mem_cons_of_mem _ h) _ _ _ _ (fun j r h _ => by cases h)) (fun _ _ => zs_KX_p) zyw_Chooser_weighStars (fun va F G h => by obtain ⟨rfl, _⟩ := h; rfl) (fun va F G h => by obtain ⟨rfl, _⟩ := h; rfl) rfl fun good va F G hB hret hvret hP => by
  obtain ⟨rfl, rfl, rfl⟩ := hP
  have l0 : ∀ (n : Nat) (x3 : Int) (f4 : Int) (g0 : (Int → Int)) (g1 : (Int → Int)) (g2 : (Int → Int)) (g10 : (Int → Int)) (q : Int × (Int → Int) × (Int → Int) × (Int → Int) × (Int → Int)), zf_Chooser_weighStars_l0 f0 f2 f3 g3 g4 g5 g6 g7 g8 g9 g11 g12 n x3 f4 g0 g1 g2 g10 = some q → (good 80 [.inr 1000, .inr 1000, .inr 1000, .inr 1000] [] [.inl f0, .inl f1, .inl f2, .inl f3, .inl q.1] [q.2.1, q.2.2.1, q.2.2.2.1, g3, g4, g5, g6, g7, g8, g9, q.2.2.2.2, g11, g12]) → good 11 [.inr 0, .inr 1, .inr 2, .inl x3] [] [.inl f0, .inl f1, .inl f2, .inl f3, .inl f4] [g0, g1, g2, g3, g4, g5, g6, g7, g8, g9, g10, g11, g12] := by
    intro n
    induction n with
    | zero => intro x3 f4 g0 g1 g2 g10 q h; exact absurd (show none = some q from h) (fun h => by cases h)
    | succ n ih =>
      intro x3 f4 g0 g1 g2 g10 q h hK
      replace h : zf_Chooser_weighStars_l0_b f0 f2 f3 g3 g4 g5 g6 g7 g8 g9 g11 g12 (zf_Chooser_weighStars_l0 f0 f2 f3 g3 g4 g5 g6 g7 g8 g9 g11 g12 n) x3 f4 g0 g1 g2 g10 = some q := h
      unfold zf_Chooser_weighStars_l0_b at h
      refine zv_ild hB zd145_11 rfl rfl ?_
      refine zv_con hB zd145_12 rfl ?_
      refine zv_cge hB zd145_14 rfl (fun hc3 => ?_) (fun hc3 => ?_)
      · rw [if_neg (Int.not_lt.mpr hc3)] at h
        have hq := Option.some.inj h
        subst hq
        refine zv_wk hB (L' := [.inr 1000, .inr 1000, .inr 1000, .inr 1000]) (F' := [.inl f0, .inl f1, .inl f2, .inl f3, .inl f4]) ⟨fun (h : zv_is (.inr 1000)) => (Nat.lt_irrefl 1000 h).elim, fun (h : zv_is (.inr 1000)) => (Nat.lt_irrefl 1000 h).elim, fun (h : zv_is (.inr 1000)) => (Nat.lt_irrefl 1000 h).elim, fun (h : zv_is (.inr 1000)) => (Nat.lt_irrefl 1000 h).elim, trivial⟩ ⟨fun _ => rfl, fun _ => rfl, fun _ => rfl, fun _ => rfl, fun _ => rfl, trivial⟩ ?_
        exact hK
      · rw [if_pos hc3] at h
        refine zv_ald hB zd145_17 rfl rfl rfl ?_
        refine zv_getr hB zd145_18 rfl ?_
        refine zv_ild hB zd145_21 rfl rfl ?_
        refine zv_con hB zd145_22 rfl ?_
        obtain ⟨c4, h⟩ := zi_if h
        refine zv_iast hB zd145_23 rfl rfl (zi_ix_ok c4).1 (zi_ix_ok c4).2 ?_
        refine zv_ald hB zd145_24 rfl rfl rfl ?_
        refine zv_getr hB zd145_25 rfl ?_
        refine zv_ild hB zd145_28 rfl rfl ?_
        refine zv_con hB zd145_29 rfl ?_
        refine zv_iast hB zd145_30 rfl rfl (zi_ix_ok c4).1 (zi_ix_ok c4).2 ?_
        refine zv_ald hB zd145_31 rfl rfl rfl ?_
        refine zv_ild hB zd145_32 rfl rfl ?_
        obtain ⟨r5, hr5, h⟩ := zi_bind h
        refine zv_cv hB (zv_emq (va2 := [.inr 1, .inl x3]) (F := [.inl f0, .inl f1, .inl f2, .inl f3, .inl f4]) (F' := [.inl f0, .inl f1, .inl f2, .inl f3, .inl f4]) (G := [g0, (zv_up g1 x3 0), (zv_up g2 x3 0), g3, g4, g5, g6, g7, g8, g9, g10, g11, g12]) (G' := [g0, (zv_up g1 x3 0), (zv_up g2 x3 0), g3, g4, g5, g6, g7, g8, g9, g10, g11, g12]) (ρ := [1]) (φ := [2]) (ψ := []) [none, none, some 0, none, none] [none, none, none, none, none, none, none, none, none, none, none, none, none] zyw_Sky_hasStar zyw_Chooser_weighStars zye_Chooser_weighStars (by decide +kernel) (zt_Sky_hasStar hr5) ⟨⟨_, rfl, fun _ => rfl⟩, trivial⟩ trivial rfl rfl rfl rfl rfl rfl rfl) zd145_33 zxt18 rfl (by decide) (by decide) rfl ?_
        refine zv_zeq hB zd145_36 rfl (fun hc6 => ?_) (fun hc6 => ?_)
        · rw [if_pos hc6] at h
          refine zv_iincw hB zd145_74 rfl rfl ?_
          refine zv_goto hB zd145_77 rfl ?_
          exact ih _ _ _ _ _ _ q h hK
        · rw [if_neg hc6] at h
          refine zv_ald hB zd145_39 rfl rfl rfl ?_
          refine zv_ald hB zd145_40 rfl rfl rfl ?_
          refine zv_ild hB zd145_41 rfl rfl ?_
          obtain ⟨r7, hr7, h⟩ := zi_bind h
          refine zv_cv hB (zv_emq (va2 := [.inr 2, .inr 1, .inl x3]) (F := [.inl f0, .inl f1, .inl f2, .inl f3, .inl f4]) (F' := [.inl f0, .inl f1, .inl f2, .inl f3, .inl f4]) (G := [g0, (zv_up g1 x3 0), (zv_up g2 x3 0), g3, g4, g5, g6, g7, g8, g9, g10, g11, g12]) (G' := [r7, (zv_up g1 x3 0), (zv_up g2 x3 0), g3, g4, g5, g6, g7, g8, g9, g10, g11, g12]) (ρ := [2, 1, 3, 6, 7, 8]) (φ := [0]) (ψ := [0, 3, 4, 5]) [some 0, none, none, none, none] [some 0, none, none, some 1, some 2, some 3, none, none, none, none, none, none, none] zyw_Law_setStar zyw_Chooser_weighStars zye_Chooser_weighStars (by decide +kernel) (zt_Law_setStar hr7) ⟨⟨_, rfl, fun _ => rfl⟩, trivial⟩ ⟨rfl, rfl, rfl, rfl, trivial⟩ rfl rfl rfl rfl rfl rfl rfl) zd145_42 zxt92 rfl (by decide) (by decide) rfl ?_
          refine zv_ald hB zd145_45 rfl rfl rfl ?_
          refine zv_getr hB zd145_46 rfl ?_
          refine zv_ild hB zd145_49 rfl rfl ?_
          refine zv_ald hB zd145_50 rfl rfl rfl ?_
          refine zv_con hB zd145_51 rfl ?_
          refine zv_con hB zd145_53 rfl ?_
          obtain ⟨r8, hr8, h⟩ := zi_bind h
          refine zv_cv hB (zv_emq (va2 := [.inr 2, .inl 119, .inl 999]) (F := [.inl f0, .inl f1, .inl f2, .inl f3, .inl f4]) (F' := [.inl f0, .inl f1, .inl f2, .inl f3, .inl r8.2.1]) (G := [r7, (zv_up g1 x3 0), (zv_up g2 x3 0), g3, g4, g5, g6, g7, g8, g9, g10, g11, g12]) (G' := [r7, (zv_up g1 x3 0), (zv_up g2 x3 0), g3, g4, g5, g6, g7, g8, g9, r8.2.2, g11, g12]) (ρ := [2, 9, 10, 11, 12, 13, 14, 3, 15]) (φ := [3, 4]) (ψ := [6, 7, 8, 9, 10, 11, 0, 12]) [none, none, none, some 0, some 1] [some 6, none, none, none, none, none, some 0, some 1, some 2, some 3, some 4, some 5, some 7] zyw_Law_amount zyw_Chooser_weighStars zye_Chooser_weighStars (by decide +kernel) (zt_Law_amount hr8) ⟨⟨_, rfl, fun _ => rfl⟩, ⟨_, rfl, fun _ => rfl⟩, trivial⟩ ⟨rfl, rfl, rfl, rfl, rfl, rfl, rfl, rfl, trivial⟩ rfl rfl rfl rfl rfl rfl rfl) zd145_56 zxt146 rfl (by decide) (by decide) rfl ?_
          refine zv_iast hB zd145_59 rfl rfl (zi_ix_ok c4).1 (zi_ix_ok c4).2 ?_
          refine zv_ald hB zd145_60 rfl rfl rfl ?_
          refine zv_getr hB zd145_61 rfl ?_
          refine zv_ild hB zd145_64 rfl rfl ?_
          refine zv_ald hB zd145_65 rfl rfl rfl ?_
          refine zv_con hB zd145_66 rfl ?_
          refine zv_con hB zd145_68 rfl ?_
          obtain ⟨r9, hr9, h⟩ := zi_bind h
          refine zv_cv hB (zv_emq (va2 := [.inr 2, .inl 103, .inl 99]) (F := [.inl f0, .inl f1, .inl f2, .inl f3, .inl r8.2.1]) (F' := [.inl f0, .inl f1, .inl f2, .inl f3, .inl r9.2.1]) (G := [r7, (zv_up (zv_up g1 x3 0) x3 r8.1), (zv_up g2 x3 0), g3, g4, g5, g6, g7, g8, g9, r8.2.2, g11, g12]) (G' := [r7, (zv_up (zv_up g1 x3 0) x3 r8.1), (zv_up g2 x3 0), g3, g4, g5, g6, g7, g8, g9, r9.2.2, g11, g12]) (ρ := [2, 9, 10, 11, 12, 13, 14, 3, 15]) (φ := [3, 4]) (ψ := [6, 7, 8, 9, 10, 11, 0, 12]) [none, none, none, some 0, some 1] [some 6, none, none, none, none, none, some 0, some 1, some 2, some 3, some 4, some 5, some 7] zyw_Law_amount zyw_Chooser_weighStars zye_Chooser_weighStars (by decide +kernel) (zt_Law_amount hr9) ⟨⟨_, rfl, fun _ => rfl⟩, ⟨_, rfl, fun _ => rfl⟩, trivial⟩ ⟨rfl, rfl, rfl, rfl, rfl, rfl, rfl, rfl, trivial⟩ rfl rfl rfl rfl rfl rfl rfl) zd145_70 zxt146 rfl (by decide) (by decide) rfl ?_
          refine zv_iast hB zd145_73 rfl rfl (zi_ix_ok c4).1 (zi_ix_ok c4).2 ?_
          refine zv_iincw hB zd145_74 rfl rfl ?_
          refine zv_goto hB zd145_77 rfl ?_
          exact ih _ _ _ _ _ _ q h hK
  unfold zf_Chooser_weighStars at h
  refine zv_ald hB zd145_0 rfl rfl rfl ?_
  obtain ⟨r1, hr1, h⟩ := zi_bind h
  refine zv_cv hB (zv_emq (va2 := [.inr 2]) (F := [.inl f0, .inl f1, .inl f2, .inl f3, .inl f4]) (F' := [.inl f0, .inl f1, .inl f2, .inl f3, .inl f4]) (G := [g0, g1, g2, g3, g4, g5, g6, g7, g8, g9, g10, g11, g12]) (G' := [r1, g1, g2, g3, g4, g5, g6, g7, g8, g9, g10, g11, g12]) (ρ := [2, 3]) (φ := []) (ψ := [0]) [none, none, none, none, none] [some 0, none, none, none, none, none, none, none, none, none, none, none, none] zyw_Law_forgetLetters zyw_Chooser_weighStars zye_Chooser_weighStars (by decide +kernel) (zt_Law_forgetLetters hr1) trivial ⟨rfl, trivial⟩ rfl rfl rfl rfl rfl rfl rfl) zd145_1 zxt87 rfl (by decide) (by decide) rfl ?_
  refine zv_ald hB zd145_4 rfl rfl rfl ?_
  refine zv_ald hB zd145_5 rfl rfl rfl ?_
  obtain ⟨r2, hr2, h⟩ := zi_bind h
  refine zv_cv hB (zv_emq (va2 := [.inr 2, .inr 1]) (F := [.inl f0, .inl f1, .inl f2, .inl f3, .inl f4]) (F' := [.inl f0, .inl f1, .inl f2, .inl f3, .inl f4]) (G := [r1, g1, g2, g3, g4, g5, g6, g7, g8, g9, g10, g11, g12]) (G' := [r2, g1, g2, g3, g4, g5, g6, g7, g8, g9, g10, g11, g12]) (ρ := [2, 1, 3]) (φ := [0, 1]) (ψ := [0]) [some 0, some 1, none, none, none] [some 0, none, none, none, none, none, none, none, none, none, none, none, none] zyw_Law_setTime zyw_Chooser_weighStars zye_Chooser_weighStars (by decide +kernel) (zt_Law_setTime hr2) ⟨⟨_, rfl, fun _ => rfl⟩, ⟨_, rfl, fun _ => rfl⟩, trivial⟩ ⟨rfl, trivial⟩ rfl rfl rfl rfl rfl rfl rfl) zd145_6 zxt88 rfl (by decide) (by decide) rfl ?_
  refine zv_con hB zd145_9 rfl ?_
  refine zv_ist hB zd145_10 rfl rfl rfl ?_
  obtain ⟨q10, hq10, h⟩ := zi_bind h
  refine l0 _ _ _ _ _ _ _ q10 hq10 ?_
  show good 80 [.inr 1000, .inr 1000, .inr 1000, .inr 1000] [] [.inl f0, .inl f1, .inl f2, .inl f3, .inl q10.1] [q10.2.1, q10.2.2.1, q10.2.2.2.1, g3, g4, g5, g6, g7, g8, g9, q10.2.2.2.2, g11, g12]
  have hw := Option.some.inj h
  subst hw
  exact hvret _ _ _ _ zd145_80 trivial ⟨rfl, rfl, rfl⟩
/-! Arrays_fill_1000 ([II)V -/
-- names: 0 (0, 1000)('arg', 0)
-- fields: ; arrays: g0 = 0; out: [('g', 0)]
abbrev zy_Arrays_fill_1000 : zNL := (1, [], [], [], [(0, 0, 1000, 0)])
theorem zyw_Arrays_fill_1000 : zv_wf zy_Arrays_fill_1000 = true := by decide +kernel
theorem zye_Arrays_fill_1000 : zv_ek2 zy_Arrays_fill_1000 = true := by decide +kernel
def zf_Arrays_fill_1000_l0_b (x1 : Int) (x3 : Int) (rec : Int → (Int → Int) → Option ((Int → Int))) (x2 : Int) (g0 : (Int → Int)) : Option ((Int → Int)) := if x2 < x3 then (cond (zi_ix x2 1000) (rec (zi_w (x2 + 1)) (zv_up g0 x2 x1)) none) else (some g0)
def zf_Arrays_fill_1000_l0 (x1 : Int) (x3 : Int) : Nat → Int → (Int → Int) → Option ((Int → Int))
  | 0, _, _ => none
  | n + 1, x2, g0 => zf_Arrays_fill_1000_l0_b x1 x3 (zf_Arrays_fill_1000_l0 x1 x3 n) x2 g0
def zf_Arrays_fill_1000 (x1 : Int) (g0 : (Int → Int)) : Option ((Int → Int)) := (zf_Arrays_fill_1000_l0 x1 1000 zi_fu 0 g0).bind fun q3 => (some q3)
theorem zt_Arrays_fill_1000 {x1 : Int} {g0 : (Int → Int)} {o : (Int → Int)} (h : zf_Arrays_fill_1000 x1 g0 = some o) : zv_Fn z_TB z_cl z_KX zy_Arrays_fill_1000 zxm78 (0, 0) [.inr 0, .inl x1] [] [g0] none [] [o] := zv_meth (K := (z_KF20, z_KC20, z_KL20, z_KT20, [], [], [], none)) (FT := z_FT) (MT := z_MT) (n := 2) zxp78 (z_ks20 _ (fun _ h => List.mem_cons_of_mem _ h) _ _ _ _ (fun j r h _ => by cases h)) (fun _ _ => zs_KX_p) zyw_Arrays_fill_1000 (fun va F G h => by obtain ⟨rfl, _⟩ := h; rfl) (fun va F G h => by obtain ⟨rfl, _⟩ := h; rfl) rfl fun good va F G hB hret hvret hP => by
  obtain ⟨rfl, rfl, rfl⟩ := hP
  have l0 : ∀ (n : Nat) (x1 : Int) (x2 : Int) (x3 : Int) (g0 : (Int → Int)) (q : (Int → Int)), zf_Arrays_fill_1000_l0 x1 x3 n x2 g0 = some q → (good 20 [.inr 1000, .inr 1000, .inr 1000, .inr 1000] [] [] [q]) → good 5 [.inr 0, .inl x1, .inl x2, .inl x3] [] [] [g0] := by
    intro n
    induction n with
    | zero => intro x1 x2 x3 g0 q h; exact absurd (show none = some q from h) (fun h => by cases h)
    | succ n ih =>
      intro x1 x2 x3 g0 q h hK
      replace h : zf_Arrays_fill_1000_l0_b x1 x3 (zf_Arrays_fill_1000_l0 x1 x3 n) x2 g0 = some q := h
      unfold zf_Arrays_fill_1000_l0_b at h
      refine zv_ild hB zd78_5 rfl rfl ?_
      refine zv_ild hB zd78_6 rfl rfl ?_
      refine zv_cge hB zd78_7 rfl (fun hc1 => ?_) (fun hc1 => ?_)
      · rw [if_neg (Int.not_lt.mpr hc1)] at h
        have hq := Option.some.inj h
        subst hq
        refine zv_wk hB (L' := [.inr 1000, .inr 1000, .inr 1000, .inr 1000]) (F' := []) ⟨fun (h : zv_is (.inr 1000)) => (Nat.lt_irrefl 1000 h).elim, fun (h : zv_is (.inr 1000)) => (Nat.lt_irrefl 1000 h).elim, fun (h : zv_is (.inr 1000)) => (Nat.lt_irrefl 1000 h).elim, fun (h : zv_is (.inr 1000)) => (Nat.lt_irrefl 1000 h).elim, trivial⟩ trivial ?_
        exact hK
      · rw [if_pos hc1] at h
        refine zv_ald hB zd78_10 rfl rfl rfl ?_
        refine zv_ild hB zd78_11 rfl rfl ?_
        refine zv_ild hB zd78_12 rfl rfl ?_
        obtain ⟨c2, h⟩ := zi_if h
        refine zv_iast hB zd78_13 rfl rfl (zi_ix_ok c2).1 (zi_ix_ok c2).2 ?_
        refine zv_iincw hB zd78_14 rfl rfl ?_
        refine zv_goto hB zd78_17 rfl ?_
        exact ih _ _ _ _ q h hK
  unfold zf_Arrays_fill_1000 at h
  refine zv_con hB zd78_0 rfl ?_
  refine zv_ist hB zd78_1 rfl rfl rfl ?_
  refine zv_ald hB zd78_2 rfl rfl rfl ?_
  refine zv_alen (v := 1000) hB zd78_3 rfl rfl rfl rfl ?_
  refine zv_ist hB zd78_4 rfl rfl rfl ?_
  obtain ⟨q3, hq3, h⟩ := zi_bind h
  refine l0 _ _ _ _ _ q3 hq3 ?_
  show good 20 [.inr 1000, .inr 1000, .inr 1000, .inr 1000] [] [] [q3]
  have hw := Option.some.inj h
  subst hw
  exact hvret _ _ _ _ zd78_20 trivial ⟨rfl, rfl, rfl⟩
/-! Chooser_offer (II)V -/
-- names: 0 Chooser('arg', 0), 1 (0, 24)(0, 11, 4), 2 (0, 1000)(0, 11, 5), 3 (0, 24)(0, 11, 3), 4 (0, 1000)(0, 11, 6)
-- fields: ; arrays: g0 = 1, g1 = 2, g2 = 3, g3 = 4; out: [('g', 1), ('g', 3)]
abbrev zy_Chooser_offer : zNL := (5, [(0, 11)], [], [(0, 11, 4, 1), (0, 11, 5, 2), (0, 11, 3, 3), (0, 11, 6, 4)], [(1, 0, 24, 0), (2, 0, 1000, 1), (3, 0, 24, 2), (4, 0, 1000, 3)])
theorem zyw_Chooser_offer : zv_wf zy_Chooser_offer = true := by decide +kernel
theorem zye_Chooser_offer : zv_ek2 zy_Chooser_offer = true := by decide +kernel
def zf_Chooser_offer_l0_b (x1 : Int) (g0 : (Int → Int)) (g2 : (Int → Int)) (rec : Int → (Int → Int) → (Int → Int) → Option ((Int → Int) × (Int → Int))) (x3 : Int) (g1 : (Int → Int)) (g3 : (Int → Int)) : Option ((Int → Int) × (Int → Int)) := cond (zi_ix x1 24) (if x3 < (g0 x1) then (some (g1, g3)) else (cond (zi_ix (zi_w (x3 - (g0 x1))) 1000) (cond (zi_ix x3 1000) (if (g1 x3) < (zi_w ((g1 (zi_w (x3 - (g0 x1)))) + (g2 x1))) then (rec (zi_w (x3 + (-1))) (zv_up g1 x3 (zi_w ((g1 (zi_w (x3 - (g0 x1)))) + (g2 x1)))) (zv_up g3 x3 (zi_or (g3 (zi_w (x3 - (g0 x1)))) (zi_shl 1 x1)))) else (rec (zi_w (x3 + (-1))) g1 g3)) none) none)) none
def zf_Chooser_offer_l0 (x1 : Int) (g0 : (Int → Int)) (g2 : (Int → Int)) : Nat → Int → (Int → Int) → (Int → Int) → Option ((Int → Int) × (Int → Int))
  | 0, _, _, _ => none
  | n + 1, x3, g1, g3 => zf_Chooser_offer_l0_b x1 g0 g2 (zf_Chooser_offer_l0 x1 g0 g2 n) x3 g1 g3
def zf_Chooser_offer (x1 : Int) (x2 : Int) (g0 : (Int → Int)) (g1 : (Int → Int)) (g2 : (Int → Int)) (g3 : (Int → Int)) : Option ((Int → Int) × (Int → Int)) := (zf_Chooser_offer_l0 x1 g0 g2 zi_fu x2 g1 g3).bind fun q6 => (some (q6.1, q6.2))
theorem zd148_0 : decode zxm148.2.1 0 = .ok (.iload_n 2, 1) := by decide +kernel
theorem zd148_1 : decode zxm148.2.1 1 = .ok (.istore_n 3, 1) := by decide +kernel
theorem zd148_2 : decode zxm148.2.1 2 = .ok (.iload_n 3, 1) := by decide +kernel
theorem zd148_3 : decode zxm148.2.1 3 = .ok (.aload_n 0, 1) := by decide +kernel
theorem zd148_4 : decode zxm148.2.1 4 = .ok (.getfield 24, 3) := by decide +kernel
theorem zd148_7 : decode zxm148.2.1 7 = .ok (.iload_n 1, 1) := by decide +kernel
theorem zd148_8 : decode zxm148.2.1 8 = .ok (.iaload, 1) := by decide +kernel
theorem zd148_9 : decode zxm148.2.1 9 = .ok (.if_icmp .lt 79, 3) := by decide +kernel
theorem zd148_12 : decode zxm148.2.1 12 = .ok (.iload_n 3, 1) := by decide +kernel
theorem zd148_13 : decode zxm148.2.1 13 = .ok (.aload_n 0, 1) := by decide +kernel
theorem zd148_14 : decode zxm148.2.1 14 = .ok (.getfield 24, 3) := by decide +kernel
theorem zd148_17 : decode zxm148.2.1 17 = .ok (.iload_n 1, 1) := by decide +kernel
theorem zd148_18 : decode zxm148.2.1 18 = .ok (.iaload, 1) := by decide +kernel
theorem zd148_19 : decode zxm148.2.1 19 = .ok (.isub, 1) := by decide +kernel
theorem zd148_20 : decode zxm148.2.1 20 = .ok (.istore 4, 2) := by decide +kernel
theorem zd148_22 : decode zxm148.2.1 22 = .ok (.aload_n 0, 1) := by decide +kernel
theorem zd148_23 : decode zxm148.2.1 23 = .ok (.getfield 27, 3) := by decide +kernel
theorem zd148_26 : decode zxm148.2.1 26 = .ok (.iload 4, 2) := by decide +kernel
theorem zd148_28 : decode zxm148.2.1 28 = .ok (.iaload, 1) := by decide +kernel
theorem zd148_29 : decode zxm148.2.1 29 = .ok (.aload_n 0, 1) := by decide +kernel
theorem zd148_30 : decode zxm148.2.1 30 = .ok (.getfield 21, 3) := by decide +kernel
theorem zd148_33 : decode zxm148.2.1 33 = .ok (.iload_n 1, 1) := by decide +kernel
theorem zd148_34 : decode zxm148.2.1 34 = .ok (.iaload, 1) := by decide +kernel
theorem zd148_35 : decode zxm148.2.1 35 = .ok (.iadd, 1) := by decide +kernel
theorem zd148_36 : decode zxm148.2.1 36 = .ok (.aload_n 0, 1) := by decide +kernel
theorem zd148_37 : decode zxm148.2.1 37 = .ok (.getfield 27, 3) := by decide +kernel
theorem zd148_40 : decode zxm148.2.1 40 = .ok (.iload_n 3, 1) := by decide +kernel
theorem zd148_41 : decode zxm148.2.1 41 = .ok (.iaload, 1) := by decide +kernel
theorem zd148_42 : decode zxm148.2.1 42 = .ok (.if_icmp .le 40, 3) := by decide +kernel
theorem zd148_45 : decode zxm148.2.1 45 = .ok (.aload_n 0, 1) := by decide +kernel
theorem zd148_46 : decode zxm148.2.1 46 = .ok (.getfield 27, 3) := by decide +kernel
theorem zd148_49 : decode zxm148.2.1 49 = .ok (.iload_n 3, 1) := by decide +kernel
theorem zd148_50 : decode zxm148.2.1 50 = .ok (.aload_n 0, 1) := by decide +kernel
theorem zd148_51 : decode zxm148.2.1 51 = .ok (.getfield 27, 3) := by decide +kernel
theorem zd148_54 : decode zxm148.2.1 54 = .ok (.iload 4, 2) := by decide +kernel
theorem zd148_56 : decode zxm148.2.1 56 = .ok (.iaload, 1) := by decide +kernel
theorem zd148_57 : decode zxm148.2.1 57 = .ok (.aload_n 0, 1) := by decide +kernel
theorem zd148_58 : decode zxm148.2.1 58 = .ok (.getfield 21, 3) := by decide +kernel
theorem zd148_61 : decode zxm148.2.1 61 = .ok (.iload_n 1, 1) := by decide +kernel
theorem zd148_62 : decode zxm148.2.1 62 = .ok (.iaload, 1) := by decide +kernel
theorem zd148_63 : decode zxm148.2.1 63 = .ok (.iadd, 1) := by decide +kernel
theorem zd148_64 : decode zxm148.2.1 64 = .ok (.iastore, 1) := by decide +kernel
theorem zd148_65 : decode zxm148.2.1 65 = .ok (.aload_n 0, 1) := by decide +kernel
theorem zd148_66 : decode zxm148.2.1 66 = .ok (.getfield 30, 3) := by decide +kernel
theorem zd148_69 : decode zxm148.2.1 69 = .ok (.iload_n 3, 1) := by decide +kernel
theorem zd148_70 : decode zxm148.2.1 70 = .ok (.aload_n 0, 1) := by decide +kernel
theorem zd148_71 : decode zxm148.2.1 71 = .ok (.getfield 30, 3) := by decide +kernel
theorem zd148_74 : decode zxm148.2.1 74 = .ok (.iload 4, 2) := by decide +kernel
theorem zd148_76 : decode zxm148.2.1 76 = .ok (.iaload, 1) := by decide +kernel
theorem zd148_77 : decode zxm148.2.1 77 = .ok (.iconst 1, 1) := by decide +kernel
theorem zd148_78 : decode zxm148.2.1 78 = .ok (.iload_n 1, 1) := by decide +kernel
theorem zd148_79 : decode zxm148.2.1 79 = .ok (.ishl, 1) := by decide +kernel
theorem zd148_80 : decode zxm148.2.1 80 = .ok (.ior, 1) := by decide +kernel
theorem zd148_81 : decode zxm148.2.1 81 = .ok (.iastore, 1) := by decide +kernel
theorem zd148_82 : decode zxm148.2.1 82 = .ok (.iinc 3 (-1), 3) := by decide +kernel
theorem zd148_85 : decode zxm148.2.1 85 = .ok (.goto (-83), 3) := by decide +kernel
theorem zd148_88 : decode zxm148.2.1 88 = .ok (.return_, 1) := by decide +kernel
theorem zt_Chooser_offer {x1 : Int} {x2 : Int} {g0 : (Int → Int)} {g1 : (Int → Int)} {g2 : (Int → Int)} {g3 : (Int → Int)} {o : (Int → Int) × (Int → Int)} (h : zf_Chooser_offer x1 x2 g0 g1 g2 g3 = some o) : zv_Fn z_TB z_cl z_KX zy_Chooser_offer zxm148 (0, 0) [.inr 0, .inl x1, .inl x2] [] [g0, g1, g2, g3] none [] [g0, o.1, g2, o.2] := zv_meth (K := (z_KF1, z_KC1, z_KL1, z_KT1, [], [], [], none)) (FT := z_FT) (MT := z_MT) (n := 3) zxp148 (z_ks1 _ (fun _ h => List.mem_cons_of_mem _ h) _ _ _ _ (fun j r h _ => by cases h)) (fun _ _ => zs_KX_p) zyw_Chooser_offer (fun va F G h => by obtain ⟨rfl, _⟩ := h; rfl) (fun va F G h => by obtain ⟨rfl, _⟩ := h; rfl) rfl fun good va F G hB hret hvret hP => by
  obtain ⟨rfl, rfl, rfl⟩ := hP
  have l0 : ∀ (n : Nat) (x1 : Int) (x3 : Int) (g1 : (Int → Int)) (g3 : (Int → Int)) (q : (Int → Int) × (Int → Int)), zf_Chooser_offer_l0 x1 g0 g2 n x3 g1 g3 = some q → (good 88 [.inr 1000, .inr 1000, .inr 1000, .inr 1000, .inr 1000] [] [] [g0, q.1, g2, q.2]) → good 2 [.inr 0, .inl x1, .inr 1000, .inl x3, .inr 1000] [] [] [g0, g1, g2, g3] := by
    intro n
    induction n with
    | zero => intro x1 x3 g1 g3 q h; exact absurd (show none = some q from h) (fun h => by cases h)
    | succ n ih =>
      intro x1 x3 g1 g3 q h hK
      replace h : zf_Chooser_offer_l0_b x1 g0 g2 (zf_Chooser_offer_l0 x1 g0 g2 n) x3 g1 g3 = some q := h
      unfold zf_Chooser_offer_l0_b at h
      refine zv_ild hB zd148_2 rfl rfl ?_
      refine zv_ald hB zd148_3 rfl rfl rfl ?_
      refine zv_getr hB zd148_4 rfl ?_
      refine zv_ild hB zd148_7 rfl rfl ?_
      obtain ⟨c1, h⟩ := zi_if h
      refine zv_iald hB zd148_8 rfl rfl (zi_ix_ok c1).1 (zi_ix_ok c1).2 (fun _ _ => ?_)
      refine zv_clt hB zd148_9 rfl (fun hc2 => ?_) (fun hc2 => ?_)
      · rw [if_pos hc2] at h
        have hq := Option.some.inj h
        subst hq
        refine zv_wk hB (L' := [.inr 1000, .inr 1000, .inr 1000, .inr 1000, .inr 1000]) (F' := []) ⟨fun (h : zv_is (.inr 1000)) => (Nat.lt_irrefl 1000 h).elim, fun (h : zv_is (.inr 1000)) => (Nat.lt_irrefl 1000 h).elim, fun (h : zv_is (.inr 1000)) => (Nat.lt_irrefl 1000 h).elim, fun (h : zv_is (.inr 1000)) => (Nat.lt_irrefl 1000 h).elim, fun (h : zv_is (.inr 1000)) => (Nat.lt_irrefl 1000 h).elim, trivial⟩ trivial ?_
        exact hK
      · rw [if_neg (Int.not_lt.mpr hc2)] at h
        refine zv_ild hB zd148_12 rfl rfl ?_
        refine zv_ald hB zd148_13 rfl rfl rfl ?_
        refine zv_getr hB zd148_14 rfl ?_
        refine zv_ild hB zd148_17 rfl rfl ?_
        refine zv_iald hB zd148_18 rfl rfl (zi_ix_ok c1).1 (zi_ix_ok c1).2 (fun _ _ => ?_)
        refine zv_subw hB zd148_19 ?_
        refine zv_ist hB zd148_20 rfl rfl rfl ?_
        refine zv_ald hB zd148_22 rfl rfl rfl ?_
        refine zv_getr hB zd148_23 rfl ?_
        refine zv_ild hB zd148_26 rfl rfl ?_
        obtain ⟨c3, h⟩ := zi_if h
        refine zv_iald hB zd148_28 rfl rfl (zi_ix_ok c3).1 (zi_ix_ok c3).2 (fun _ _ => ?_)
        refine zv_ald hB zd148_29 rfl rfl rfl ?_
        refine zv_getr hB zd148_30 rfl ?_
        refine zv_ild hB zd148_33 rfl rfl ?_
        refine zv_iald hB zd148_34 rfl rfl (zi_ix_ok c1).1 (zi_ix_ok c1).2 (fun _ _ => ?_)
        refine zv_addw hB zd148_35 ?_
        refine zv_ald hB zd148_36 rfl rfl rfl ?_
        refine zv_getr hB zd148_37 rfl ?_
        refine zv_ild hB zd148_40 rfl rfl ?_
        obtain ⟨c4, h⟩ := zi_if h
        refine zv_iald hB zd148_41 rfl rfl (zi_ix_ok c4).1 (zi_ix_ok c4).2 (fun _ _ => ?_)
        refine zv_cle hB zd148_42 rfl (fun hc5 => ?_) (fun hc5 => ?_)
        · rw [if_neg (Int.not_lt.mpr hc5)] at h
          refine zv_iincw hB zd148_82 rfl rfl ?_
          refine zv_goto hB zd148_85 rfl ?_
          refine zv_wk hB (L' := [.inr 0, .inl x1, .inr 1000, .inl (zi_w (x3 + (-1))), .inr 1000]) (F' := []) ⟨fun _ => rfl, fun _ => rfl, fun (h : zv_is (.inr 1000)) => (Nat.lt_irrefl 1000 h).elim, fun _ => rfl, fun (h : zv_is (.inr 1000)) => (Nat.lt_irrefl 1000 h).elim, trivial⟩ trivial ?_
          exact ih _ _ _ _ q h hK
        · rw [if_pos hc5] at h
          refine zv_ald hB zd148_45 rfl rfl rfl ?_
          refine zv_getr hB zd148_46 rfl ?_
          refine zv_ild hB zd148_49 rfl rfl ?_
          refine zv_ald hB zd148_50 rfl rfl rfl ?_
          refine zv_getr hB zd148_51 rfl ?_
          refine zv_ild hB zd148_54 rfl rfl ?_
          refine zv_iald hB zd148_56 rfl rfl (zi_ix_ok c3).1 (zi_ix_ok c3).2 (fun _ _ => ?_)
          refine zv_ald hB zd148_57 rfl rfl rfl ?_
          refine zv_getr hB zd148_58 rfl ?_
          refine zv_ild hB zd148_61 rfl rfl ?_
          refine zv_iald hB zd148_62 rfl rfl (zi_ix_ok c1).1 (zi_ix_ok c1).2 (fun _ _ => ?_)
          refine zv_addw hB zd148_63 ?_
          refine zv_iast hB zd148_64 rfl rfl (zi_ix_ok c4).1 (zi_ix_ok c4).2 ?_
          refine zv_ald hB zd148_65 rfl rfl rfl ?_
          refine zv_getr hB zd148_66 rfl ?_
          refine zv_ild hB zd148_69 rfl rfl ?_
          refine zv_ald hB zd148_70 rfl rfl rfl ?_
          refine zv_getr hB zd148_71 rfl ?_
          refine zv_ild hB zd148_74 rfl rfl ?_
          refine zv_iald hB zd148_76 rfl rfl (zi_ix_ok c3).1 (zi_ix_ok c3).2 (fun _ _ => ?_)
          refine zv_con hB zd148_77 rfl ?_
          refine zv_ild hB zd148_78 rfl rfl ?_
          refine zv_shlw hB zd148_79 ?_
          refine zv_orw hB zd148_80 ?_
          refine zv_iast hB zd148_81 rfl rfl (zi_ix_ok c4).1 (zi_ix_ok c4).2 ?_
          refine zv_iincw hB zd148_82 rfl rfl ?_
          refine zv_goto hB zd148_85 rfl ?_
          refine zv_wk hB (L' := [.inr 0, .inl x1, .inr 1000, .inl (zi_w (x3 + (-1))), .inr 1000]) (F' := []) ⟨fun _ => rfl, fun _ => rfl, fun (h : zv_is (.inr 1000)) => (Nat.lt_irrefl 1000 h).elim, fun _ => rfl, fun (h : zv_is (.inr 1000)) => (Nat.lt_irrefl 1000 h).elim, trivial⟩ trivial ?_
          exact ih _ _ _ _ q h hK
  unfold zf_Chooser_offer at h
  refine zv_ild hB zd148_0 rfl rfl ?_
  refine zv_ist hB zd148_1 rfl rfl rfl ?_
  obtain ⟨q6, hq6, h⟩ := zi_bind h
  refine zv_wk hB (L' := [.inr 0, .inl x1, .inr 1000, .inl x2, .inr 1000]) (F' := []) ⟨fun _ => rfl, fun _ => rfl, fun (h : zv_is (.inr 1000)) => (Nat.lt_irrefl 1000 h).elim, fun _ => rfl, fun (h : zv_is (.inr 1000)) => (Nat.lt_irrefl 1000 h).elim, trivial⟩ trivial ?_
  refine l0 _ _ _ _ _ q6 hq6 ?_
  show good 88 [.inr 1000, .inr 1000, .inr 1000, .inr 1000, .inr 1000] [] [] [g0, q6.1, g2, q6.2]
  have hw := Option.some.inj h
  subst hw
  exact hvret _ _ _ _ zd148_88 trivial ⟨rfl, rfl, rfl⟩
/-! Chooser_bestSold (II)I -/
-- names: 0 Chooser('arg', 0), 1 (0, 1000)(0, 11, 5), 2 (0, 1000)(0, 11, 6), 3 (0, 24)(0, 11, 3), 4 (0, 24)(0, 11, 4)
-- fields: ; arrays: g0 = 1, g1 = 2, g2 = 3, g3 = 4; out: [('ret', None), ('g', 0), ('g', 1)]
abbrev zy_Chooser_bestSold : zNL := (5, [(0, 11)], [], [(0, 11, 5, 1), (0, 11, 6, 2), (0, 11, 3, 3), (0, 11, 4, 4)], [(1, 0, 1000, 0), (2, 0, 1000, 1), (3, 0, 24, 2), (4, 0, 24, 3)])
theorem zyw_Chooser_bestSold : zv_wf zy_Chooser_bestSold = true := by decide +kernel
theorem zye_Chooser_bestSold : zv_ek2 zy_Chooser_bestSold = true := by decide +kernel
def zf_Chooser_bestSold_l0_b (x1 : Int) (x2 : Int) (g2 : (Int → Int)) (g3 : (Int → Int)) (rec : Int → (Int → Int) → (Int → Int) → Option ((Int → Int) × (Int → Int))) (x3 : Int) (g0 : (Int → Int)) (g1 : (Int → Int)) : Option ((Int → Int) × (Int → Int)) := if x3 < 24 then (if (zi_and (zi_shr x1 x3) 1) = 0 then (rec (zi_w (x3 + 1)) g0 g1) else (cond (zi_ix x3 24) (if 0 < (g2 x3) then ((zf_Chooser_offer x3 x2 g3 g0 g2 g1).bind fun r7 => (rec (zi_w (x3 + 1)) r7.1 r7.2)) else (rec (zi_w (x3 + 1)) g0 g1)) none)) else (some (g0, g1))
def zf_Chooser_bestSold_l0 (x1 : Int) (x2 : Int) (g2 : (Int → Int)) (g3 : (Int → Int)) : Nat → Int → (Int → Int) → (Int → Int) → Option ((Int → Int) × (Int → Int))
  | 0, _, _, _ => none
  | n + 1, x3, g0, g1 => zf_Chooser_bestSold_l0_b x1 x2 g2 g3 (zf_Chooser_bestSold_l0 x1 x2 g2 g3 n) x3 g0 g1
def zf_Chooser_bestSold (x1 : Int) (x2 : Int) (g0 : (Int → Int)) (g1 : (Int → Int)) (g2 : (Int → Int)) (g3 : (Int → Int)) : Option (Int × (Int → Int) × (Int → Int)) := (zf_Arrays_fill_1000 0 g0).bind fun r1 => ((zf_Arrays_fill_1000 0 g1).bind fun r2 => ((zf_Chooser_bestSold_l0 x1 x2 g2 g3 zi_fu 0 r1 r2).bind fun q8 => (cond (zi_ix x2 1000) (some ((q8.2 x2), q8.1, q8.2)) none)))
theorem zd147_0 : decode zxm147.2.1 0 = .ok (.aload_n 0, 1) := by decide +kernel
theorem zd147_1 : decode zxm147.2.1 1 = .ok (.getfield 27, 3) := by decide +kernel
theorem zd147_4 : decode zxm147.2.1 4 = .ok (.iconst 0, 1) := by decide +kernel
theorem zd147_5 : decode zxm147.2.1 5 = .ok (.invokestatic 74, 3) := by decide +kernel
theorem zd147_8 : decode zxm147.2.1 8 = .ok (.aload_n 0, 1) := by decide +kernel
theorem zd147_9 : decode zxm147.2.1 9 = .ok (.getfield 30, 3) := by decide +kernel
theorem zd147_12 : decode zxm147.2.1 12 = .ok (.iconst 0, 1) := by decide +kernel
theorem zd147_13 : decode zxm147.2.1 13 = .ok (.invokestatic 74, 3) := by decide +kernel
theorem zd147_16 : decode zxm147.2.1 16 = .ok (.iconst 0, 1) := by decide +kernel
theorem zd147_17 : decode zxm147.2.1 17 = .ok (.istore_n 3, 1) := by decide +kernel
theorem zd147_18 : decode zxm147.2.1 18 = .ok (.iload_n 3, 1) := by decide +kernel
theorem zd147_19 : decode zxm147.2.1 19 = .ok (.bipush 24, 2) := by decide +kernel
theorem zd147_21 : decode zxm147.2.1 21 = .ok (.if_icmp .ge 32, 3) := by decide +kernel
theorem zd147_24 : decode zxm147.2.1 24 = .ok (.iload_n 1, 1) := by decide +kernel
theorem zd147_25 : decode zxm147.2.1 25 = .ok (.iload_n 3, 1) := by decide +kernel
theorem zd147_26 : decode zxm147.2.1 26 = .ok (.ishr, 1) := by decide +kernel
theorem zd147_27 : decode zxm147.2.1 27 = .ok (.iconst 1, 1) := by decide +kernel
theorem zd147_28 : decode zxm147.2.1 28 = .ok (.iand, 1) := by decide +kernel
theorem zd147_29 : decode zxm147.2.1 29 = .ok (.ifCond .eq 18, 3) := by decide +kernel
theorem zd147_32 : decode zxm147.2.1 32 = .ok (.aload_n 0, 1) := by decide +kernel
theorem zd147_33 : decode zxm147.2.1 33 = .ok (.getfield 21, 3) := by decide +kernel
theorem zd147_36 : decode zxm147.2.1 36 = .ok (.iload_n 3, 1) := by decide +kernel
theorem zd147_37 : decode zxm147.2.1 37 = .ok (.iaload, 1) := by decide +kernel
theorem zd147_38 : decode zxm147.2.1 38 = .ok (.ifCond .le 9, 3) := by decide +kernel
theorem zd147_41 : decode zxm147.2.1 41 = .ok (.aload_n 0, 1) := by decide +kernel
theorem zd147_42 : decode zxm147.2.1 42 = .ok (.iload_n 3, 1) := by decide +kernel
theorem zd147_43 : decode zxm147.2.1 43 = .ok (.iload_n 2, 1) := by decide +kernel
theorem zd147_44 : decode zxm147.2.1 44 = .ok (.invokevirtual 80, 3) := by decide +kernel
theorem zd147_47 : decode zxm147.2.1 47 = .ok (.iinc 3 1, 3) := by decide +kernel
theorem zd147_50 : decode zxm147.2.1 50 = .ok (.goto (-32), 3) := by decide +kernel
theorem zd147_53 : decode zxm147.2.1 53 = .ok (.aload_n 0, 1) := by decide +kernel
theorem zd147_54 : decode zxm147.2.1 54 = .ok (.getfield 30, 3) := by decide +kernel
theorem zd147_57 : decode zxm147.2.1 57 = .ok (.iload_n 2, 1) := by decide +kernel
theorem zd147_58 : decode zxm147.2.1 58 = .ok (.iaload, 1) := by decide +kernel
theorem zd147_59 : decode zxm147.2.1 59 = .ok (.ireturn, 1) := by decide +kernel
theorem zt_Chooser_bestSold {x1 : Int} {x2 : Int} {g0 : (Int → Int)} {g1 : (Int → Int)} {g2 : (Int → Int)} {g3 : (Int → Int)} {o : Int × (Int → Int) × (Int → Int)} (h : zf_Chooser_bestSold x1 x2 g0 g1 g2 g3 = some o) : zv_Fn z_TB z_cl z_KX zy_Chooser_bestSold zxm147 (1, 60) [.inr 0, .inl x1, .inl x2] [] [g0, g1, g2, g3] (some o.1) [] [o.2.1, o.2.2, g2, g3] := zv_meth (K := (z_KF1, z_KC1, z_KL1, z_KT1, [], [], [], none)) (FT := z_FT) (MT := z_MT) (n := 3) zxp147 (z_ks1 _ (fun _ h => List.mem_cons_of_mem _ h) _ _ _ _ (fun j r h _ => by cases h)) (fun _ _ => zs_KX_p) zyw_Chooser_bestSold (fun va F G h => by obtain ⟨rfl, _⟩ := h; rfl) (fun va F G h => by obtain ⟨rfl, _⟩ := h; rfl) rfl fun good va F G hB hret hvret hP => by
  obtain ⟨rfl, rfl, rfl⟩ := hP
  have l0 : ∀ (n : Nat) (x1 : Int) (x2 : Int) (x3 : Int) (g0 : (Int → Int)) (g1 : (Int → Int)) (q : (Int → Int) × (Int → Int)), zf_Chooser_bestSold_l0 x1 x2 g2 g3 n x3 g0 g1 = some q → (good 53 [.inr 0, .inr 1000, .inl x2, .inr 1000] [] [] [q.1, q.2, g2, g3]) → good 18 [.inr 0, .inl x1, .inl x2, .inl x3] [] [] [g0, g1, g2, g3] := by
    intro n
    induction n with
    | zero => intro x1 x2 x3 g0 g1 q h; exact absurd (show none = some q from h) (fun h => by cases h)
    | succ n ih =>
      intro x1 x2 x3 g0 g1 q h hK
      replace h : zf_Chooser_bestSold_l0_b x1 x2 g2 g3 (zf_Chooser_bestSold_l0 x1 x2 g2 g3 n) x3 g0 g1 = some q := h
      unfold zf_Chooser_bestSold_l0_b at h
      refine zv_ild hB zd147_18 rfl rfl ?_
      refine zv_con hB zd147_19 rfl ?_
      refine zv_cge hB zd147_21 rfl (fun hc3 => ?_) (fun hc3 => ?_)
      · rw [if_neg (Int.not_lt.mpr hc3)] at h
        have hq := Option.some.inj h
        subst hq
        refine zv_wk hB (L' := [.inr 0, .inr 1000, .inl x2, .inr 1000]) (F' := []) ⟨fun _ => rfl, fun (h : zv_is (.inr 1000)) => (Nat.lt_irrefl 1000 h).elim, fun _ => rfl, fun (h : zv_is (.inr 1000)) => (Nat.lt_irrefl 1000 h).elim, trivial⟩ trivial ?_
        exact hK
      · rw [if_pos hc3] at h
        refine zv_ild hB zd147_24 rfl rfl ?_
        refine zv_ild hB zd147_25 rfl rfl ?_
        refine zv_shrw hB zd147_26 ?_
        refine zv_con hB zd147_27 rfl ?_
        refine zv_andw hB zd147_28 ?_
        refine zv_zeq hB zd147_29 rfl (fun hc4 => ?_) (fun hc4 => ?_)
        · rw [if_pos hc4] at h
          refine zv_iincw hB zd147_47 rfl rfl ?_
          refine zv_goto hB zd147_50 rfl ?_
          exact ih _ _ _ _ _ q h hK
        · rw [if_neg hc4] at h
          refine zv_ald hB zd147_32 rfl rfl rfl ?_
          refine zv_getr hB zd147_33 rfl ?_
          refine zv_ild hB zd147_36 rfl rfl ?_
          obtain ⟨c5, h⟩ := zi_if h
          refine zv_iald hB zd147_37 rfl rfl (zi_ix_ok c5).1 (zi_ix_ok c5).2 (fun _ _ => ?_)
          refine zv_zle hB zd147_38 rfl (fun hc6 => ?_) (fun hc6 => ?_)
          · rw [if_neg (Int.not_lt.mpr hc6)] at h
            refine zv_iincw hB zd147_47 rfl rfl ?_
            refine zv_goto hB zd147_50 rfl ?_
            exact ih _ _ _ _ _ q h hK
          · rw [if_pos hc6] at h
            refine zv_ald hB zd147_41 rfl rfl rfl ?_
            refine zv_ild hB zd147_42 rfl rfl ?_
            refine zv_ild hB zd147_43 rfl rfl ?_
            obtain ⟨r7, hr7, h⟩ := zi_bind h
            refine zv_cv hB (zv_emq (va2 := [.inr 0, .inl x3, .inl x2]) (F := []) (F' := []) (G := [g0, g1, g2, g3]) (G' := [r7.1, r7.2, g2, g3]) (ρ := [0, 4, 1, 3, 2]) (φ := []) (ψ := [3, 0, 2, 1]) [] [some 1, some 3, some 2, some 0] zyw_Chooser_offer zyw_Chooser_bestSold zye_Chooser_bestSold (by decide +kernel) (zt_Chooser_offer hr7) trivial ⟨rfl, rfl, rfl, rfl, trivial⟩ rfl rfl rfl rfl rfl rfl rfl) zd147_44 zxt148 rfl (by decide) (by decide) rfl ?_
            refine zv_iincw hB zd147_47 rfl rfl ?_
            refine zv_goto hB zd147_50 rfl ?_
            exact ih _ _ _ _ _ q h hK
  unfold zf_Chooser_bestSold at h
  refine zv_ald hB zd147_0 rfl rfl rfl ?_
  refine zv_getr hB zd147_1 rfl ?_
  refine zv_con hB zd147_4 rfl ?_
  obtain ⟨r1, hr1, h⟩ := zi_bind h
  refine zv_cs hB (zv_emq (va2 := [.inr 1, .inl 0]) (F := []) (F' := []) (G := [g0, g1, g2, g3]) (G' := [r1, g1, g2, g3]) (ρ := [1]) (φ := []) (ψ := [0]) [] [some 0, none, none, none] zyw_Arrays_fill_1000 zyw_Chooser_bestSold zye_Chooser_bestSold (by decide +kernel) (zt_Arrays_fill_1000 hr1) trivial ⟨rfl, trivial⟩ rfl rfl rfl rfl rfl rfl rfl) zd147_5 zxt78 rfl (by decide) (by decide) rfl ?_
  refine zv_ald hB zd147_8 rfl rfl rfl ?_
  refine zv_getr hB zd147_9 rfl ?_
  refine zv_con hB zd147_12 rfl ?_
  obtain ⟨r2, hr2, h⟩ := zi_bind h
  refine zv_cs hB (zv_emq (va2 := [.inr 2, .inl 0]) (F := []) (F' := []) (G := [r1, g1, g2, g3]) (G' := [r1, r2, g2, g3]) (ρ := [2]) (φ := []) (ψ := [1]) [] [none, some 0, none, none] zyw_Arrays_fill_1000 zyw_Chooser_bestSold zye_Chooser_bestSold (by decide +kernel) (zt_Arrays_fill_1000 hr2) trivial ⟨rfl, trivial⟩ rfl rfl rfl rfl rfl rfl rfl) zd147_13 zxt78 rfl (by decide) (by decide) rfl ?_
  refine zv_con hB zd147_16 rfl ?_
  refine zv_ist hB zd147_17 rfl rfl rfl ?_
  obtain ⟨q8, hq8, h⟩ := zi_bind h
  refine l0 _ _ _ _ _ _ q8 hq8 ?_
  show good 53 [.inr 0, .inr 1000, .inl x2, .inr 1000] [] [] [q8.1, q8.2, g2, g3]
  refine zv_ald hB zd147_53 rfl rfl rfl ?_
  refine zv_getr hB zd147_54 rfl ?_
  refine zv_ild hB zd147_57 rfl rfl ?_
  obtain ⟨c9, h⟩ := zi_if h
  refine zv_iald hB zd147_58 rfl rfl (zi_ix_ok c9).1 (zi_ix_ok c9).2 (fun _ _ => ?_)
  have hw := Option.some.inj h
  subst hw
  exact hret _ _ _ _ _ zd147_59 (by trivial) ⟨rfl, rfl, rfl⟩
/-! Chooser_worthOf (I)I -/
-- names: 0 Chooser('arg', 0), 1 (0, 24)(0, 11, 3)
-- fields: ; arrays: g0 = 1; out: [('ret', None)]
abbrev zy_Chooser_worthOf : zNL := (2, [(0, 11)], [], [(0, 11, 3, 1)], [(1, 0, 24, 0)])
theorem zyw_Chooser_worthOf : zv_wf zy_Chooser_worthOf = true := by decide +kernel
theorem zye_Chooser_worthOf : zv_ek2 zy_Chooser_worthOf = true := by decide +kernel
def zf_Chooser_worthOf_l0_b (x1 : Int) (g0 : (Int → Int)) (rec : Int → Int → Option (Int)) (x2 : Int) (x3 : Int) : Option (Int) := if x3 < 24 then (cond (zi_ix x3 24) (rec (zi_w (x2 + (zi_w ((zi_and (zi_shr x1 x3) 1) * (g0 x3))))) (zi_w (x3 + 1))) none) else (some x2)
def zf_Chooser_worthOf_l0 (x1 : Int) (g0 : (Int → Int)) : Nat → Int → Int → Option (Int)
  | 0, _, _ => none
  | n + 1, x2, x3 => zf_Chooser_worthOf_l0_b x1 g0 (zf_Chooser_worthOf_l0 x1 g0 n) x2 x3
def zf_Chooser_worthOf (x1 : Int) (g0 : (Int → Int)) : Option (Int) := (zf_Chooser_worthOf_l0 x1 g0 zi_fu 0 0).bind fun q3 => (some q3)
theorem zd149_0 : decode zxm149.2.1 0 = .ok (.iconst 0, 1) := by decide +kernel
theorem zd149_1 : decode zxm149.2.1 1 = .ok (.istore_n 2, 1) := by decide +kernel
theorem zd149_2 : decode zxm149.2.1 2 = .ok (.iconst 0, 1) := by decide +kernel
theorem zd149_3 : decode zxm149.2.1 3 = .ok (.istore_n 3, 1) := by decide +kernel
theorem zd149_4 : decode zxm149.2.1 4 = .ok (.iload_n 3, 1) := by decide +kernel
theorem zd149_5 : decode zxm149.2.1 5 = .ok (.bipush 24, 2) := by decide +kernel
theorem zd149_7 : decode zxm149.2.1 7 = .ok (.if_icmp .ge 24, 3) := by decide +kernel
theorem zd149_10 : decode zxm149.2.1 10 = .ok (.iload_n 2, 1) := by decide +kernel
theorem zd149_11 : decode zxm149.2.1 11 = .ok (.iload_n 1, 1) := by decide +kernel
theorem zd149_12 : decode zxm149.2.1 12 = .ok (.iload_n 3, 1) := by decide +kernel
theorem zd149_13 : decode zxm149.2.1 13 = .ok (.ishr, 1) := by decide +kernel
theorem zd149_14 : decode zxm149.2.1 14 = .ok (.iconst 1, 1) := by decide +kernel
theorem zd149_15 : decode zxm149.2.1 15 = .ok (.iand, 1) := by decide +kernel
theorem zd149_16 : decode zxm149.2.1 16 = .ok (.aload_n 0, 1) := by decide +kernel
theorem zd149_17 : decode zxm149.2.1 17 = .ok (.getfield 21, 3) := by decide +kernel
theorem zd149_20 : decode zxm149.2.1 20 = .ok (.iload_n 3, 1) := by decide +kernel
theorem zd149_21 : decode zxm149.2.1 21 = .ok (.iaload, 1) := by decide +kernel
theorem zd149_22 : decode zxm149.2.1 22 = .ok (.imul, 1) := by decide +kernel
theorem zd149_23 : decode zxm149.2.1 23 = .ok (.iadd, 1) := by decide +kernel
theorem zd149_24 : decode zxm149.2.1 24 = .ok (.istore_n 2, 1) := by decide +kernel
theorem zd149_25 : decode zxm149.2.1 25 = .ok (.iinc 3 1, 3) := by decide +kernel
theorem zd149_28 : decode zxm149.2.1 28 = .ok (.goto (-24), 3) := by decide +kernel
theorem zd149_31 : decode zxm149.2.1 31 = .ok (.iload_n 2, 1) := by decide +kernel
theorem zd149_32 : decode zxm149.2.1 32 = .ok (.ireturn, 1) := by decide +kernel
theorem zt_Chooser_worthOf {x1 : Int} {g0 : (Int → Int)} {o : Int} (h : zf_Chooser_worthOf x1 g0 = some o) : zv_Fn z_TB z_cl z_KX zy_Chooser_worthOf zxm149 (0, 0) [.inr 0, .inl x1] [] [g0] (some o) [] [g0] := zv_meth (K := (z_KF1, z_KC1, z_KL1, z_KT1, [], [], [], none)) (FT := z_FT) (MT := z_MT) (n := 2) zxp149 (z_ks1 _ (fun _ h => List.mem_cons_of_mem _ h) _ _ _ _ (fun j r h _ => by cases h)) (fun _ _ => zs_KX_p) zyw_Chooser_worthOf (fun va F G h => by obtain ⟨rfl, _⟩ := h; rfl) (fun va F G h => by obtain ⟨rfl, _⟩ := h; rfl) rfl fun good va F G hB hret hvret hP => by
  obtain ⟨rfl, rfl, rfl⟩ := hP
  have l0 : ∀ (n : Nat) (x1 : Int) (x2 : Int) (x3 : Int) (q : Int), zf_Chooser_worthOf_l0 x1 g0 n x2 x3 = some q → (good 31 [.inr 1000, .inr 1000, .inl q, .inr 1000] [] [] [g0]) → good 4 [.inr 0, .inl x1, .inl x2, .inl x3] [] [] [g0] := by
    intro n
    induction n with
    | zero => intro x1 x2 x3 q h; exact absurd (show none = some q from h) (fun h => by cases h)
    | succ n ih =>
      intro x1 x2 x3 q h hK
      replace h : zf_Chooser_worthOf_l0_b x1 g0 (zf_Chooser_worthOf_l0 x1 g0 n) x2 x3 = some q := h
      unfold zf_Chooser_worthOf_l0_b at h
      refine zv_ild hB zd149_4 rfl rfl ?_
      refine zv_con hB zd149_5 rfl ?_
      refine zv_cge hB zd149_7 rfl (fun hc1 => ?_) (fun hc1 => ?_)
      · rw [if_neg (Int.not_lt.mpr hc1)] at h
        have hq := Option.some.inj h
        subst hq
        refine zv_wk hB (L' := [.inr 1000, .inr 1000, .inl x2, .inr 1000]) (F' := []) ⟨fun (h : zv_is (.inr 1000)) => (Nat.lt_irrefl 1000 h).elim, fun (h : zv_is (.inr 1000)) => (Nat.lt_irrefl 1000 h).elim, fun _ => rfl, fun (h : zv_is (.inr 1000)) => (Nat.lt_irrefl 1000 h).elim, trivial⟩ trivial ?_
        exact hK
      · rw [if_pos hc1] at h
        refine zv_ild hB zd149_10 rfl rfl ?_
        refine zv_ild hB zd149_11 rfl rfl ?_
        refine zv_ild hB zd149_12 rfl rfl ?_
        refine zv_shrw hB zd149_13 ?_
        refine zv_con hB zd149_14 rfl ?_
        refine zv_andw hB zd149_15 ?_
        refine zv_ald hB zd149_16 rfl rfl rfl ?_
        refine zv_getr hB zd149_17 rfl ?_
        refine zv_ild hB zd149_20 rfl rfl ?_
        obtain ⟨c2, h⟩ := zi_if h
        refine zv_iald hB zd149_21 rfl rfl (zi_ix_ok c2).1 (zi_ix_ok c2).2 (fun _ _ => ?_)
        refine zv_mulw hB zd149_22 ?_
        refine zv_addw hB zd149_23 ?_
        refine zv_ist hB zd149_24 rfl rfl rfl ?_
        refine zv_iincw hB zd149_25 rfl rfl ?_
        refine zv_goto hB zd149_28 rfl ?_
        exact ih _ _ _ q h hK
  unfold zf_Chooser_worthOf at h
  refine zv_con hB zd149_0 rfl ?_
  refine zv_ist hB zd149_1 rfl rfl rfl ?_
  refine zv_con hB zd149_2 rfl ?_
  refine zv_ist hB zd149_3 rfl rfl rfl ?_
  obtain ⟨q3, hq3, h⟩ := zi_bind h
  refine l0 _ _ _ _ q3 hq3 ?_
  show good 31 [.inr 1000, .inr 1000, .inl q3, .inr 1000] [] [] [g0]
  refine zv_ild hB zd149_31 rfl rfl ?_
  have hw := Option.some.inj h
  subst hw
  exact hret _ _ _ _ _ zd149_32 (by trivial) ⟨rfl, rfl, rfl⟩
/-! Chooser_weightOf (I)I -/
-- names: 0 Chooser('arg', 0), 1 (0, 24)(0, 11, 4)
-- fields: ; arrays: g0 = 1; out: [('ret', None)]
abbrev zy_Chooser_weightOf : zNL := (2, [(0, 11)], [], [(0, 11, 4, 1)], [(1, 0, 24, 0)])
theorem zyw_Chooser_weightOf : zv_wf zy_Chooser_weightOf = true := by decide +kernel
theorem zye_Chooser_weightOf : zv_ek2 zy_Chooser_weightOf = true := by decide +kernel
def zf_Chooser_weightOf_l0_b (x1 : Int) (g0 : (Int → Int)) (rec : Int → Int → Option (Int)) (x2 : Int) (x3 : Int) : Option (Int) := if x3 < 24 then (cond (zi_ix x3 24) (rec (zi_w (x2 + (zi_w ((zi_and (zi_shr x1 x3) 1) * (g0 x3))))) (zi_w (x3 + 1))) none) else (some x2)
def zf_Chooser_weightOf_l0 (x1 : Int) (g0 : (Int → Int)) : Nat → Int → Int → Option (Int)
  | 0, _, _ => none
  | n + 1, x2, x3 => zf_Chooser_weightOf_l0_b x1 g0 (zf_Chooser_weightOf_l0 x1 g0 n) x2 x3
def zf_Chooser_weightOf (x1 : Int) (g0 : (Int → Int)) : Option (Int) := (zf_Chooser_weightOf_l0 x1 g0 zi_fu 0 0).bind fun q3 => (some q3)
theorem zd150_0 : decode zxm150.2.1 0 = .ok (.iconst 0, 1) := by decide +kernel
theorem zd150_1 : decode zxm150.2.1 1 = .ok (.istore_n 2, 1) := by decide +kernel
theorem zd150_2 : decode zxm150.2.1 2 = .ok (.iconst 0, 1) := by decide +kernel
theorem zd150_3 : decode zxm150.2.1 3 = .ok (.istore_n 3, 1) := by decide +kernel
theorem zd150_4 : decode zxm150.2.1 4 = .ok (.iload_n 3, 1) := by decide +kernel
theorem zd150_5 : decode zxm150.2.1 5 = .ok (.bipush 24, 2) := by decide +kernel
theorem zd150_7 : decode zxm150.2.1 7 = .ok (.if_icmp .ge 24, 3) := by decide +kernel
theorem zd150_10 : decode zxm150.2.1 10 = .ok (.iload_n 2, 1) := by decide +kernel
theorem zd150_11 : decode zxm150.2.1 11 = .ok (.iload_n 1, 1) := by decide +kernel
theorem zd150_12 : decode zxm150.2.1 12 = .ok (.iload_n 3, 1) := by decide +kernel
theorem zd150_13 : decode zxm150.2.1 13 = .ok (.ishr, 1) := by decide +kernel
theorem zd150_14 : decode zxm150.2.1 14 = .ok (.iconst 1, 1) := by decide +kernel
theorem zd150_15 : decode zxm150.2.1 15 = .ok (.iand, 1) := by decide +kernel
theorem zd150_16 : decode zxm150.2.1 16 = .ok (.aload_n 0, 1) := by decide +kernel
theorem zd150_17 : decode zxm150.2.1 17 = .ok (.getfield 24, 3) := by decide +kernel
theorem zd150_20 : decode zxm150.2.1 20 = .ok (.iload_n 3, 1) := by decide +kernel
theorem zd150_21 : decode zxm150.2.1 21 = .ok (.iaload, 1) := by decide +kernel
theorem zd150_22 : decode zxm150.2.1 22 = .ok (.imul, 1) := by decide +kernel
theorem zd150_23 : decode zxm150.2.1 23 = .ok (.iadd, 1) := by decide +kernel
theorem zd150_24 : decode zxm150.2.1 24 = .ok (.istore_n 2, 1) := by decide +kernel
theorem zd150_25 : decode zxm150.2.1 25 = .ok (.iinc 3 1, 3) := by decide +kernel
theorem zd150_28 : decode zxm150.2.1 28 = .ok (.goto (-24), 3) := by decide +kernel
theorem zd150_31 : decode zxm150.2.1 31 = .ok (.iload_n 2, 1) := by decide +kernel
theorem zd150_32 : decode zxm150.2.1 32 = .ok (.ireturn, 1) := by decide +kernel
theorem zt_Chooser_weightOf {x1 : Int} {g0 : (Int → Int)} {o : Int} (h : zf_Chooser_weightOf x1 g0 = some o) : zv_Fn z_TB z_cl z_KX zy_Chooser_weightOf zxm150 (0, 0) [.inr 0, .inl x1] [] [g0] (some o) [] [g0] := zv_meth (K := (z_KF1, z_KC1, z_KL1, z_KT1, [], [], [], none)) (FT := z_FT) (MT := z_MT) (n := 2) zxp150 (z_ks1 _ (fun _ h => List.mem_cons_of_mem _ h) _ _ _ _ (fun j r h _ => by cases h)) (fun _ _ => zs_KX_p) zyw_Chooser_weightOf (fun va F G h => by obtain ⟨rfl, _⟩ := h; rfl) (fun va F G h => by obtain ⟨rfl, _⟩ := h; rfl) rfl fun good va F G hB hret hvret hP => by
  obtain ⟨rfl, rfl, rfl⟩ := hP
  have l0 : ∀ (n : Nat) (x1 : Int) (x2 : Int) (x3 : Int) (q : Int), zf_Chooser_weightOf_l0 x1 g0 n x2 x3 = some q → (good 31 [.inr 1000, .inr 1000, .inl q, .inr 1000] [] [] [g0]) → good 4 [.inr 0, .inl x1, .inl x2, .inl x3] [] [] [g0] := by
    intro n
    induction n with
    | zero => intro x1 x2 x3 q h; exact absurd (show none = some q from h) (fun h => by cases h)
    | succ n ih =>
      intro x1 x2 x3 q h hK
      replace h : zf_Chooser_weightOf_l0_b x1 g0 (zf_Chooser_weightOf_l0 x1 g0 n) x2 x3 = some q := h
      unfold zf_Chooser_weightOf_l0_b at h
      refine zv_ild hB zd150_4 rfl rfl ?_
      refine zv_con hB zd150_5 rfl ?_
      refine zv_cge hB zd150_7 rfl (fun hc1 => ?_) (fun hc1 => ?_)
      · rw [if_neg (Int.not_lt.mpr hc1)] at h
        have hq := Option.some.inj h
        subst hq
        refine zv_wk hB (L' := [.inr 1000, .inr 1000, .inl x2, .inr 1000]) (F' := []) ⟨fun (h : zv_is (.inr 1000)) => (Nat.lt_irrefl 1000 h).elim, fun (h : zv_is (.inr 1000)) => (Nat.lt_irrefl 1000 h).elim, fun _ => rfl, fun (h : zv_is (.inr 1000)) => (Nat.lt_irrefl 1000 h).elim, trivial⟩ trivial ?_
        exact hK
      · rw [if_pos hc1] at h
        refine zv_ild hB zd150_10 rfl rfl ?_
        refine zv_ild hB zd150_11 rfl rfl ?_
        refine zv_ild hB zd150_12 rfl rfl ?_
        refine zv_shrw hB zd150_13 ?_
        refine zv_con hB zd150_14 rfl ?_
        refine zv_andw hB zd150_15 ?_
        refine zv_ald hB zd150_16 rfl rfl rfl ?_
        refine zv_getr hB zd150_17 rfl ?_
        refine zv_ild hB zd150_20 rfl rfl ?_
        obtain ⟨c2, h⟩ := zi_if h
        refine zv_iald hB zd150_21 rfl rfl (zi_ix_ok c2).1 (zi_ix_ok c2).2 (fun _ _ => ?_)
        refine zv_mulw hB zd150_22 ?_
        refine zv_addw hB zd150_23 ?_
        refine zv_ist hB zd150_24 rfl rfl rfl ?_
        refine zv_iincw hB zd150_25 rfl rfl ?_
        refine zv_goto hB zd150_28 rfl ?_
        exact ih _ _ _ q h hK
  unfold zf_Chooser_weightOf at h
  refine zv_con hB zd150_0 rfl ?_
  refine zv_ist hB zd150_1 rfl rfl rfl ?_
  refine zv_con hB zd150_2 rfl ?_
  refine zv_ist hB zd150_3 rfl rfl rfl ?_
  obtain ⟨q3, hq3, h⟩ := zi_bind h
  refine l0 _ _ _ _ q3 hq3 ?_
  show good 31 [.inr 1000, .inr 1000, .inl q3, .inr 1000] [] [] [g0]
  refine zv_ild hB zd150_31 rfl rfl ?_
  have hw := Option.some.inj h
  subst hw
  exact hret _ _ _ _ _ zd150_32 (by trivial) ⟨rfl, rfl, rfl⟩
