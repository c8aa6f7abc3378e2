/-! 61b.dec, 61c.dec, 61d.dec -/
section
/-! Methods as functions, and that they do what these do. -/
/-! Chooser_weighStars (LStarTales$Sky;LStarTales$Law;)V -/
-- names: 0 Chooser('arg', 0), 1 Sky('arg', 1), 2 Law('arg', 2), 3 (0, 13)(2, 4, 12), 4 (0, 24)(0, 11, 3), 5 (0, 24)(0, 11, 4), 6 (0, 24)(1, 1, 3), 7 (0, 24)(1, 1, 2), 8 (0, 24)(1, 1, 1), 9 (0, 14)(2, 4, 3), 10 (0, 14)(2, 4, 5), 11 (0, 14)(2, 4, 6), 12 (0, 200)(2, 4, 0), 13 (0, 40)(2, 4, 13), 14 (0, 200)(2, 4, 1), 15 (0, 14)(2, 4, 4)
-- fields: f0 = 1.hour_, f1 = 1.night_, f2 = 1.told_, f3 = 2.clauses_, f4 = 2.answer_; arrays: g0 = 3, g1 = 4, g2 = 5, g3 = 6, g4 = 7, g5 = 8, g6 = 9, g7 = 10, g8 = 11, g9 = 12, g10 = 13, g11 = 14, g12 = 15; out: [('f', 4), ('g', 0), ('g', 1), ('g', 2), ('g', 10)]
abbrev zy_Chooser_weighStars : zNL := (16, [(0, 11), (1, 1), (2, 4)], [(1, 1, 6, 0), (1, 1, 7, 1), (1, 1, 0, 2), (2, 4, 7, 3), (2, 4, 14, 4)], [(2, 4, 12, 3), (0, 11, 3, 4), (0, 11, 4, 5), (1, 1, 3, 6), (1, 1, 2, 7), (1, 1, 1, 8), (2, 4, 3, 9), (2, 4, 5, 10), (2, 4, 6, 11), (2, 4, 0, 12), (2, 4, 13, 13), (2, 4, 1, 14), (2, 4, 4, 15)], [(3, 0, 13, 0), (4, 0, 24, 1), (5, 0, 24, 2), (6, 0, 24, 3), (7, 0, 24, 4), (8, 0, 24, 5), (9, 0, 14, 6), (10, 0, 14, 7), (11, 0, 14, 8), (12, 0, 200, 9), (13, 0, 40, 10), (14, 0, 200, 11), (15, 0, 14, 12)])
theorem zyw_Chooser_weighStars : zv_wf zy_Chooser_weighStars = true := by decide +kernel
theorem zye_Chooser_weighStars : zv_ek2 zy_Chooser_weighStars = true := by decide +kernel
def zf_Chooser_weighStars_l0_b (f0 : Int) (f2 : Int) (f3 : Int) (g3 : (Int → Int)) (g4 : (Int → Int)) (g5 : (Int → Int)) (g6 : (Int → Int)) (g7 : (Int → Int)) (g8 : (Int → Int)) (g9 : (Int → Int)) (g11 : (Int → Int)) (g12 : (Int → Int)) (rec : Int → Int → (Int → Int) → (Int → Int) → (Int → Int) → (Int → Int) → Option (Int × (Int → Int) × (Int → Int) × (Int → Int) × (Int → Int))) (x3 : Int) (f4 : Int) (g0 : (Int → Int)) (g1 : (Int → Int)) (g2 : (Int → Int)) (g10 : (Int → Int)) : Option (Int × (Int → Int) × (Int → Int) × (Int → Int) × (Int → Int)) := if x3 < 24 then (cond (zi_ix x3 24) ((zf_Sky_hasStar x3 f2).bind fun r5 => (if r5 = 0 then (rec (zi_w (x3 + 1)) f4 g0 (zv_up g1 x3 0) (zv_up g2 x3 0) g10) else ((zf_Law_setStar x3 f0 g0 g3 g4 g5).bind fun r7 => ((zf_Law_amount 119 999 f3 f4 g6 g7 g8 g9 g10 g11 r7 g12).bind fun r8 => ((zf_Law_amount 103 99 f3 r8.2.1 g6 g7 g8 g9 r8.2.2 g11 r7 g12).bind fun r9 => (rec (zi_w (x3 + 1)) r9.2.1 r7 (zv_up (zv_up g1 x3 0) x3 r8.1) (zv_up (zv_up g2 x3 0) x3 r9.1) r9.2.2)))))) none) else (some (f4, g0, g1, g2, g10))
def zf_Chooser_weighStars_l0 (f0 : Int) (f2 : Int) (f3 : Int) (g3 : (Int → Int)) (g4 : (Int → Int)) (g5 : (Int → Int)) (g6 : (Int → Int)) (g7 : (Int → Int)) (g8 : (Int → Int)) (g9 : (Int → Int)) (g11 : (Int → Int)) (g12 : (Int → Int)) : Nat → Int → Int → (Int → Int) → (Int → Int) → (Int → Int) → (Int → Int) → Option (Int × (Int → Int) × (Int → Int) × (Int → Int) × (Int → Int))
  | 0, _, _, _, _, _, _ => none
  | n + 1, x3, f4, g0, g1, g2, g10 => zf_Chooser_weighStars_l0_b f0 f2 f3 g3 g4 g5 g6 g7 g8 g9 g11 g12 (zf_Chooser_weighStars_l0 f0 f2 f3 g3 g4 g5 g6 g7 g8 g9 g11 g12 n) x3 f4 g0 g1 g2 g10
def zf_Chooser_weighStars (f0 : Int) (f1 : Int) (f2 : Int) (f3 : Int) (f4 : Int) (g0 : (Int → Int)) (g1 : (Int → Int)) (g2 : (Int → Int)) (g3 : (Int → Int)) (g4 : (Int → Int)) (g5 : (Int → Int)) (g6 : (Int → Int)) (g7 : (Int → Int)) (g8 : (Int → Int)) (g9 : (Int → Int)) (g10 : (Int → Int)) (g11 : (Int → Int)) (g12 : (Int → Int)) : Option (Int × (Int → Int) × (Int → Int) × (Int → Int) × (Int → Int)) := (zf_Law_forgetLetters g0).bind fun r1 => ((zf_Law_setTime f0 f1 r1).bind fun r2 => ((zf_Chooser_weighStars_l0 f0 f2 f3 g3 g4 g5 g6 g7 g8 g9 g11 g12 zi_fu 0 f4 r2 g1 g2 g10).bind fun q10 => (some (q10.1, q10.2.1, q10.2.2.1, q10.2.2.2.1, q10.2.2.2.2))))
theorem zd145_0 : decode zxm145.2.1 0 = .ok (.aload_n 2, 1) := by decide +kernel
theorem zd145_1 : decode zxm145.2.1 1 = .ok (.invokevirtual 52, 3) := by decide +kernel
theorem zd145_4 : decode zxm145.2.1 4 = .ok (.aload_n 2, 1) := by decide +kernel
theorem zd145_5 : decode zxm145.2.1 5 = .ok (.aload_n 1, 1) := by decide +kernel
theorem zd145_6 : decode zxm145.2.1 6 = .ok (.invokevirtual 57, 3) := by decide +kernel
theorem zd145_9 : decode zxm145.2.1 9 = .ok (.iconst 0, 1) := by decide +kernel
theorem zd145_10 : decode zxm145.2.1 10 = .ok (.istore_n 3, 1) := by decide +kernel
theorem zd145_11 : decode zxm145.2.1 11 = .ok (.iload_n 3, 1) := by decide +kernel
theorem zd145_12 : decode zxm145.2.1 12 = .ok (.bipush 24, 2) := by decide +kernel
theorem zd145_14 : decode zxm145.2.1 14 = .ok (.if_icmp .ge 66, 3) := by decide +kernel
theorem zd145_17 : decode zxm145.2.1 17 = .ok (.aload_n 0, 1) := by decide +kernel
theorem zd145_18 : decode zxm145.2.1 18 = .ok (.getfield 21, 3) := by decide +kernel
theorem zd145_21 : decode zxm145.2.1 21 = .ok (.iload_n 3, 1) := by decide +kernel
theorem zd145_22 : decode zxm145.2.1 22 = .ok (.iconst 0, 1) := by decide +kernel
theorem zd145_23 : decode zxm145.2.1 23 = .ok (.iastore, 1) := by decide +kernel
theorem zd145_24 : decode zxm145.2.1 24 = .ok (.aload_n 0, 1) := by decide +kernel
theorem zd145_25 : decode zxm145.2.1 25 = .ok (.getfield 24, 3) := by decide +kernel
theorem zd145_28 : decode zxm145.2.1 28 = .ok (.iload_n 3, 1) := by decide +kernel
theorem zd145_29 : decode zxm145.2.1 29 = .ok (.iconst 0, 1) := by decide +kernel
theorem zd145_30 : decode zxm145.2.1 30 = .ok (.iastore, 1) := by decide +kernel
theorem zd145_31 : decode zxm145.2.1 31 = .ok (.aload_n 1, 1) := by decide +kernel
theorem zd145_32 : decode zxm145.2.1 32 = .ok (.iload_n 3, 1) := by decide +kernel
theorem zd145_33 : decode zxm145.2.1 33 = .ok (.invokevirtual 61, 3) := by decide +kernel
theorem zd145_36 : decode zxm145.2.1 36 = .ok (.ifCond .eq 38, 3) := by decide +kernel
theorem zd145_39 : decode zxm145.2.1 39 = .ok (.aload_n 2, 1) := by decide +kernel
theorem zd145_40 : decode zxm145.2.1 40 = .ok (.aload_n 1, 1) := by decide +kernel
theorem zd145_41 : decode zxm145.2.1 41 = .ok (.iload_n 3, 1) := by decide +kernel
theorem zd145_42 : decode zxm145.2.1 42 = .ok (.invokevirtual 67, 3) := by decide +kernel
theorem zd145_45 : decode zxm145.2.1 45 = .ok (.aload_n 0, 1) := by decide +kernel
theorem zd145_46 : decode zxm145.2.1 46 = .ok (.getfield 21, 3) := by decide +kernel
theorem zd145_49 : decode zxm145.2.1 49 = .ok (.iload_n 3, 1) := by decide +kernel
theorem zd145_50 : decode zxm145.2.1 50 = .ok (.aload_n 2, 1) := by decide +kernel
theorem zd145_51 : decode zxm145.2.1 51 = .ok (.bipush 119, 2) := by decide +kernel
theorem zd145_53 : decode zxm145.2.1 53 = .ok (.sipush 999, 3) := by decide +kernel
theorem zd145_56 : decode zxm145.2.1 56 = .ok (.invokevirtual 71, 3) := by decide +kernel
theorem zd145_59 : decode zxm145.2.1 59 = .ok (.iastore, 1) := by decide +kernel
theorem zd145_60 : decode zxm145.2.1 60 = .ok (.aload_n 0, 1) := by decide +kernel
theorem zd145_61 : decode zxm145.2.1 61 = .ok (.getfield 24, 3) := by decide +kernel
theorem zd145_64 : decode zxm145.2.1 64 = .ok (.iload_n 3, 1) := by decide +kernel
theorem zd145_65 : decode zxm145.2.1 65 = .ok (.aload_n 2, 1) := by decide +kernel
theorem zd145_66 : decode zxm145.2.1 66 = .ok (.bipush 103, 2) := by decide +kernel
theorem zd145_68 : decode zxm145.2.1 68 = .ok (.bipush 99, 2) := by decide +kernel
theorem zd145_70 : decode zxm145.2.1 70 = .ok (.invokevirtual 71, 3) := by decide +kernel
theorem zd145_73 : decode zxm145.2.1 73 = .ok (.iastore, 1) := by decide +kernel
theorem zd145_74 : decode zxm145.2.1 74 = .ok (.iinc 3 1, 3) := by decide +kernel
theorem zd145_77 : decode zxm145.2.1 77 = .ok (.goto (-66), 3) := by decide +kernel
theorem zd145_80 : decode zxm145.2.1 80 = .ok (.return_, 1) := by decide +kernel
theorem zt_Chooser_weighStars {f0 : Int} {f1 : Int} {f2 : Int} {f3 : Int} {f4 : Int} {g0 : (Int → Int)} {g1 : (Int → Int)} {g2 : (Int → Int)} {g3 : (Int → Int)} {g4 : (Int → Int)} {g5 : (Int → Int)} {g6 : (Int → Int)} {g7 : (Int → Int)} {g8 : (Int → Int)} {g9 : (Int → Int)} {g10 : (Int → Int)} {g11 : (Int → Int)} {g12 : (Int → Int)} {o : Int × (Int → Int) × (Int → Int) × (Int → Int) × (Int → Int)} (h : zf_Chooser_weighStars f0 f1 f2 f3 f4 g0 g1 g2 g3 g4 g5 g6 g7 g8 g9 g10 g11 g12 = some o) : zv_Fn z_TB z_cl z_KX zy_Chooser_weighStars zxm145 (3, 180) [.inr 0, .inr 1, .inr 2] [.inl f0, .inl f1, .inl f2, .inl f3, .inl f4] [g0, g1, g2, g3, g4, g5, g6, g7, g8, g9, g10, g11, g12] none [.inl f0, .inl f1, .inl f2, .inl f3, .inl o.1] [o.2.1, o.2.2.1, o.2.2.2.1, g3, g4, g5, g6, g7, g8, g9, o.2.2.2.2, g11, g12] := zv_meth (K := (z_KF1, z_KC1, z_KL1, z_KT1, [], [], [], none)) (FT := z_FT) (MT := z_MT) (n := 3) zxp145 (z_ks1 _ (fun _ h => List.mem_cons_of_mem _ h) _ _ _ _ (fun j r h _ => by cases h)) (fun _ _ => zs_KX_p) zyw_Chooser_weighStars (fun va F G h => by obtain ⟨rfl, _⟩ := h; rfl) (fun va F G h => by obtain ⟨rfl, _⟩ := h; rfl) rfl fun good va F G hB hret hvret hP => by
  obtain ⟨rfl, rfl, rfl⟩ := hP
  have l0 : ∀ (n : Nat) (x3 : Int) (f4 : Int) (g0 : (Int → Int)) (g1 : (Int → Int)) (g2 : (Int → Int)) (g10 : (Int → Int)) (q : Int × (Int → Int) × (Int → Int) × (Int → Int) × (Int → Int)), zf_Chooser_weighStars_l0 f0 f2 f3 g3 g4 g5 g6 g7 g8 g9 g11 g12 n x3 f4 g0 g1 g2 g10 = some q → (good 80 [.inr 1000, .inr 1000, .inr 1000, .inr 1000] [] [.inl f0, .inl f1, .inl f2, .inl f3, .inl q.1] [q.2.1, q.2.2.1, q.2.2.2.1, g3, g4, g5, g6, g7, g8, g9, q.2.2.2.2, g11, g12]) → good 11 [.inr 0, .inr 1, .inr 2, .inl x3] [] [.inl f0, .inl f1, .inl f2, .inl f3, .inl f4] [g0, g1, g2, g3, g4, g5, g6, g7, g8, g9, g10, g11, g12] := by
    intro n
    induction n with
    | zero => intro x3 f4 g0 g1 g2 g10 q h; exact absurd (show none = some q from h) (fun h => by cases h)
    | succ n ih =>
      intro x3 f4 g0 g1 g2 g10 q h hK
      replace h : zf_Chooser_weighStars_l0_b f0 f2 f3 g3 g4 g5 g6 g7 g8 g9 g11 g12 (zf_Chooser_weighStars_l0 f0 f2 f3 g3 g4 g5 g6 g7 g8 g9 g11 g12 n) x3 f4 g0 g1 g2 g10 = some q := h
      unfold zf_Chooser_weighStars_l0_b at h
      refine zv_ild hB zd145_11 rfl rfl ?_
      refine zv_con hB zd145_12 rfl ?_
      refine zv_cge hB zd145_14 rfl (fun hc3 => ?_) (fun hc3 => ?_)
      · rw [if_neg (Int.not_lt.mpr hc3)] at h
        have hq := Option.some.inj h
        subst hq
        refine zv_wk hB (L' := [.inr 1000, .inr 1000, .inr 1000, .inr 1000]) (F' := [.inl f0, .inl f1, .inl f2, .inl f3, .inl f4]) ⟨fun (h : zv_is (.inr 1000)) => (Nat.lt_irrefl 1000 h).elim, fun (h : zv_is (.inr 1000)) => (Nat.lt_irrefl 1000 h).elim, fun (h : zv_is (.inr 1000)) => (Nat.lt_irrefl 1000 h).elim, fun (h : zv_is (.inr 1000)) => (Nat.lt_irrefl 1000 h).elim, trivial⟩ ⟨fun _ => rfl, fun _ => rfl, fun _ => rfl, fun _ => rfl, fun _ => rfl, trivial⟩ ?_
        exact hK
      · rw [if_pos hc3] at h
        refine zv_ald hB zd145_17 rfl rfl rfl ?_
        refine zv_getr hB zd145_18 rfl ?_
        refine zv_ild hB zd145_21 rfl rfl ?_
        refine zv_con hB zd145_22 rfl ?_
        obtain ⟨c4, h⟩ := zi_if h
        refine zv_iast hB zd145_23 rfl rfl (zi_ix_ok c4).1 (zi_ix_ok c4).2 ?_
        refine zv_ald hB zd145_24 rfl rfl rfl ?_
        refine zv_getr hB zd145_25 rfl ?_
        refine zv_ild hB zd145_28 rfl rfl ?_
        refine zv_con hB zd145_29 rfl ?_
        refine zv_iast hB zd145_30 rfl rfl (zi_ix_ok c4).1 (zi_ix_ok c4).2 ?_
        refine zv_ald hB zd145_31 rfl rfl rfl ?_
        refine zv_ild hB zd145_32 rfl rfl ?_
        obtain ⟨r5, hr5, h⟩ := zi_bind h
        refine zv_cv hB (zv_emq (va2 := [.inr 1, .inl x3]) (F := [.inl f0, .inl f1, .inl f2, .inl f3, .inl f4]) (F' := [.inl f0, .inl f1, .inl f2, .inl f3, .inl f4]) (G := [g0, (zv_up g1 x3 0), (zv_up g2 x3 0), g3, g4, g5, g6, g7, g8, g9, g10, g11, g12]) (G' := [g0, (zv_up g1 x3 0), (zv_up g2 x3 0), g3, g4, g5, g6, g7, g8, g9, g10, g11, g12]) (ρ := [1]) (φ := [2]) (ψ := []) [none, none, some 0, none, none] [none, none, none, none, none, none, none, none, none, none, none, none, none] zyw_Sky_hasStar zyw_Chooser_weighStars zye_Chooser_weighStars (by decide +kernel) (zt_Sky_hasStar hr5) ⟨⟨_, rfl, fun _ => rfl⟩, trivial⟩ trivial rfl rfl rfl rfl rfl rfl rfl) zd145_33 zxt18 rfl (by decide) (by decide) rfl ?_
        refine zv_zeq hB zd145_36 rfl (fun hc6 => ?_) (fun hc6 => ?_)
        · rw [if_pos hc6] at h
          refine zv_iincw hB zd145_74 rfl rfl ?_
          refine zv_goto hB zd145_77 rfl ?_
          exact ih _ _ _ _ _ _ q h hK
        · rw [if_neg hc6] at h
          refine zv_ald hB zd145_39 rfl rfl rfl ?_
          refine zv_ald hB zd145_40 rfl rfl rfl ?_
          refine zv_ild hB zd145_41 rfl rfl ?_
          obtain ⟨r7, hr7, h⟩ := zi_bind h
          refine zv_cv hB (zv_emq (va2 := [.inr 2, .inr 1, .inl x3]) (F := [.inl f0, .inl f1, .inl f2, .inl f3, .inl f4]) (F' := [.inl f0, .inl f1, .inl f2, .inl f3, .inl f4]) (G := [g0, (zv_up g1 x3 0), (zv_up g2 x3 0), g3, g4, g5, g6, g7, g8, g9, g10, g11, g12]) (G' := [r7, (zv_up g1 x3 0), (zv_up g2 x3 0), g3, g4, g5, g6, g7, g8, g9, g10, g11, g12]) (ρ := [2, 1, 3, 6, 7, 8]) (φ := [0]) (ψ := [0, 3, 4, 5]) [some 0, none, none, none, none] [some 0, none, none, some 1, some 2, some 3, none, none, none, none, none, none, none] zyw_Law_setStar zyw_Chooser_weighStars zye_Chooser_weighStars (by decide +kernel) (zt_Law_setStar hr7) ⟨⟨_, rfl, fun _ => rfl⟩, trivial⟩ ⟨rfl, rfl, rfl, rfl, trivial⟩ rfl rfl rfl rfl rfl rfl rfl) zd145_42 zxt92 rfl (by decide) (by decide) rfl ?_
          refine zv_ald hB zd145_45 rfl rfl rfl ?_
          refine zv_getr hB zd145_46 rfl ?_
          refine zv_ild hB zd145_49 rfl rfl ?_
          refine zv_ald hB zd145_50 rfl rfl rfl ?_
          refine zv_con hB zd145_51 rfl ?_
          refine zv_con hB zd145_53 rfl ?_
          obtain ⟨r8, hr8, h⟩ := zi_bind h
          refine zv_cv hB (zv_emq (va2 := [.inr 2, .inl 119, .inl 999]) (F := [.inl f0, .inl f1, .inl f2, .inl f3, .inl f4]) (F' := [.inl f0, .inl f1, .inl f2, .inl f3, .inl r8.2.1]) (G := [r7, (zv_up g1 x3 0), (zv_up g2 x3 0), g3, g4, g5, g6, g7, g8, g9, g10, g11, g12]) (G' := [r7, (zv_up g1 x3 0), (zv_up g2 x3 0), g3, g4, g5, g6, g7, g8, g9, r8.2.2, g11, g12]) (ρ := [2, 9, 10, 11, 12, 13, 14, 3, 15]) (φ := [3, 4]) (ψ := [6, 7, 8, 9, 10, 11, 0, 12]) [none, none, none, some 0, some 1] [some 6, none, none, none, none, none, some 0, some 1, some 2, some 3, some 4, some 5, some 7] zyw_Law_amount zyw_Chooser_weighStars zye_Chooser_weighStars (by decide +kernel) (zt_Law_amount hr8) ⟨⟨_, rfl, fun _ => rfl⟩, ⟨_, rfl, fun _ => rfl⟩, trivial⟩ ⟨rfl, rfl, rfl, rfl, rfl, rfl, rfl, rfl, trivial⟩ rfl rfl rfl rfl rfl rfl rfl) zd145_56 zxt146 rfl (by decide) (by decide) rfl ?_
          refine zv_iast hB zd145_59 rfl rfl (zi_ix_ok c4).1 (zi_ix_ok c4).2 ?_
          refine zv_ald hB zd145_60 rfl rfl rfl ?_
          refine zv_getr hB zd145_61 rfl ?_
          refine zv_ild hB zd145_64 rfl rfl ?_
          refine zv_ald hB zd145_65 rfl rfl rfl ?_
          refine zv_con hB zd145_66 rfl ?_
          refine zv_con hB zd145_68 rfl ?_
          obtain ⟨r9, hr9, h⟩ := zi_bind h
          refine zv_cv hB (zv_emq (va2 := [.inr 2, .inl 103, .inl 99]) (F := [.inl f0, .inl f1, .inl f2, .inl f3, .inl r8.2.1]) (F' := [.inl f0, .inl f1, .inl f2, .inl f3, .inl r9.2.1]) (G := [r7, (zv_up (zv_up g1 x3 0) x3 r8.1), (zv_up g2 x3 0), g3, g4, g5, g6, g7, g8, g9, r8.2.2, g11, g12]) (G' := [r7, (zv_up (zv_up g1 x3 0) x3 r8.1), (zv_up g2 x3 0), g3, g4, g5, g6, g7, g8, g9, r9.2.2, g11, g12]) (ρ := [2, 9, 10, 11, 12, 13, 14, 3, 15]) (φ := [3, 4]) (ψ := [6, 7, 8, 9, 10, 11, 0, 12]) [none, none, none, some 0, some 1] [some 6, none, none, none, none, none, some 0, some 1, some 2, some 3, some 4, some 5, some 7] zyw_Law_amount zyw_Chooser_weighStars zye_Chooser_weighStars (by decide +kernel) (zt_Law_amount hr9) ⟨⟨_, rfl, fun _ => rfl⟩, ⟨_, rfl, fun _ => rfl⟩, trivial⟩ ⟨rfl, rfl, rfl, rfl, rfl, rfl, rfl, rfl, trivial⟩ rfl rfl rfl rfl rfl rfl rfl) zd145_70 zxt146 rfl (by decide) (by decide) rfl ?_
          refine zv_iast hB zd145_73 rfl rfl (zi_ix_ok c4).1 (zi_ix_ok c4).2 ?_
          refine zv_iincw hB zd145_74 rfl rfl ?_
          refine zv_goto hB zd145_77 rfl ?_
          exact ih _ _ _ _ _ _ q h hK
  unfold zf_Chooser_weighStars at h
  refine zv_ald hB zd145_0 rfl rfl rfl ?_
  obtain ⟨r1, hr1, h⟩ := zi_bind h
  refine zv_cv hB (zv_emq (va2 := [.inr 2]) (F := [.inl f0, .inl f1, .inl f2, .inl f3, .inl f4]) (F' := [.inl f0, .inl f1, .inl f2, .inl f3, .inl f4]) (G := [g0, g1, g2, g3, g4, g5, g6, g7, g8, g9, g10, g11, g12]) (G' := [r1, g1, g2, g3, g4, g5, g6, g7, g8, g9, g10, g11, g12]) (ρ := [2, 3]) (φ := []) (ψ := [0]) [none, none, none, none, none] [some 0, none, none, none, none, none, none, none, none, none, none, none, none] zyw_Law_forgetLetters zyw_Chooser_weighStars zye_Chooser_weighStars (by decide +kernel) (zt_Law_forgetLetters hr1) trivial ⟨rfl, trivial⟩ rfl rfl rfl rfl rfl rfl rfl) zd145_1 zxt87 rfl (by decide) (by decide) rfl ?_
  refine zv_ald hB zd145_4 rfl rfl rfl ?_
  refine zv_ald hB zd145_5 rfl rfl rfl ?_
  obtain ⟨r2, hr2, h⟩ := zi_bind h
  refine zv_cv hB (zv_emq (va2 := [.inr 2, .inr 1]) (F := [.inl f0, .inl f1, .inl f2, .inl f3, .inl f4]) (F' := [.inl f0, .inl f1, .inl f2, .inl f3, .inl f4]) (G := [r1, g1, g2, g3, g4, g5, g6, g7, g8, g9, g10, g11, g12]) (G' := [r2, g1, g2, g3, g4, g5, g6, g7, g8, g9, g10, g11, g12]) (ρ := [2, 1, 3]) (φ := [0, 1]) (ψ := [0]) [some 0, some 1, none, none, none] [some 0, none, none, none, none, none, none, none, none, none, none, none, none] zyw_Law_setTime zyw_Chooser_weighStars zye_Chooser_weighStars (by decide +kernel) (zt_Law_setTime hr2) ⟨⟨_, rfl, fun _ => rfl⟩, ⟨_, rfl, fun _ => rfl⟩, trivial⟩ ⟨rfl, trivial⟩ rfl rfl rfl rfl rfl rfl rfl) zd145_6 zxt88 rfl (by decide) (by decide) rfl ?_
  refine zv_con hB zd145_9 rfl ?_
  refine zv_ist hB zd145_10 rfl rfl rfl ?_
  obtain ⟨q10, hq10, h⟩ := zi_bind h
  refine l0 _ _ _ _ _ _ _ q10 hq10 ?_
  show good 80 [.inr 1000, .inr 1000, .inr 1000, .inr 1000] [] [.inl f0, .inl f1, .inl f2, .inl f3, .inl q10.1] [q10.2.1, q10.2.2.1, q10.2.2.2.1, g3, g4, g5, g6, g7, g8, g9, q10.2.2.2.2, g11, g12]
  have hw := Option.some.inj h
  subst hw
  exact hvret _ _ _ _ zd145_80 trivial ⟨rfl, rfl, rfl⟩
/-! Arrays_fill_1000 ([II)V -/
-- names: 0 (0, 1000)('arg', 0)
-- fields: ; arrays: g0 = 0; out: [('g', 0)]
abbrev zy_Arrays_fill_1000 : zNL := (1, [], [], [], [(0, 0, 1000, 0)])
theorem zyw_Arrays_fill_1000 : zv_wf zy_Arrays_fill_1000 = true := by decide +kernel
theorem zye_Arrays_fill_1000 : zv_ek2 zy_Arrays_fill_1000 = true := by decide +kernel
def zf_Arrays_fill_1000_l0_b (x1 : Int) (x3 : Int) (rec : Int → (Int → Int) → Option ((Int → Int))) (x2 : Int) (g0 : (Int → Int)) : Option ((Int → Int)) := if x2 < x3 then (cond (zi_ix x2 1000) (rec (zi_w (x2 + 1)) (zv_up g0 x2 x1)) none) else (some g0)
def zf_Arrays_fill_1000_l0 (x1 : Int) (x3 : Int) : Nat → Int → (Int → Int) → Option ((Int → Int))
  | 0, _, _ => none
  | n + 1, x2, g0 => zf_Arrays_fill_1000_l0_b x1 x3 (zf_Arrays_fill_1000_l0 x1 x3 n) x2 g0
def zf_Arrays_fill_1000 (x1 : Int) (g0 : (Int → Int)) : Option ((Int → Int)) := (zf_Arrays_fill_1000_l0 x1 1000 zi_fu 0 g0).bind fun q3 => (some q3)
theorem zt_Arrays_fill_1000 {x1 : Int} {g0 : (Int → Int)} {o : (Int → Int)} (h : zf_Arrays_fill_1000 x1 g0 = some o) : zv_Fn z_TB z_cl z_KX zy_Arrays_fill_1000 zxm78 (0, 0) [.inr 0, .inl x1] [] [g0] none [] [o] := zv_meth (K := (z_KF20, z_KC20, z_KL20, z_KT20, [], [], [], none)) (FT := z_FT) (MT := z_MT) (n := 2) zxp78 (z_ks20 _ (fun _ h => List.mem_cons_of_mem _ h) _ _ _ _ (fun j r h _ => by cases h)) (fun _ _ => zs_KX_p) zyw_Arrays_fill_1000 (fun va F G h => by obtain ⟨rfl, _⟩ := h; rfl) (fun va F G h => by obtain ⟨rfl, _⟩ := h; rfl) rfl fun good va F G hB hret hvret hP => by
  obtain ⟨rfl, rfl, rfl⟩ := hP
  have l0 : ∀ (n : Nat) (x1 : Int) (x2 : Int) (x3 : Int) (g0 : (Int → Int)) (q : (Int → Int)), zf_Arrays_fill_1000_l0 x1 x3 n x2 g0 = some q → (good 20 [.inr 1000, .inr 1000, .inr 1000, .inr 1000] [] [] [q]) → good 5 [.inr 0, .inl x1, .inl x2, .inl x3] [] [] [g0] := by
    intro n
    induction n with
    | zero => intro x1 x2 x3 g0 q h; exact absurd (show none = some q from h) (fun h => by cases h)
    | succ n ih =>
      intro x1 x2 x3 g0 q h hK
      replace h : zf_Arrays_fill_1000_l0_b x1 x3 (zf_Arrays_fill_1000_l0 x1 x3 n) x2 g0 = some q := h
      unfold zf_Arrays_fill_1000_l0_b at h
      refine zv_ild hB zd78_5 rfl rfl ?_
      refine zv_ild hB zd78_6 rfl rfl ?_
      refine zv_cge hB zd78_7 rfl (fun hc1 => ?_) (fun hc1 => ?_)
      · rw [if_neg (Int.not_lt.mpr hc1)] at h
        have hq := Option.some.inj h
        subst hq
        refine zv_wk hB (L' := [.inr 1000, .inr 1000, .inr 1000, .inr 1000]) (F' := []) ⟨fun (h : zv_is (.inr 1000)) => (Nat.lt_irrefl 1000 h).elim, fun (h : zv_is (.inr 1000)) => (Nat.lt_irrefl 1000 h).elim, fun (h : zv_is (.inr 1000)) => (Nat.lt_irrefl 1000 h).elim, fun (h : zv_is (.inr 1000)) => (Nat.lt_irrefl 1000 h).elim, trivial⟩ trivial ?_
        exact hK
      · rw [if_pos hc1] at h
        refine zv_ald hB zd78_10 rfl rfl rfl ?_
        refine zv_ild hB zd78_11 rfl rfl ?_
        refine zv_ild hB zd78_12 rfl rfl ?_
        obtain ⟨c2, h⟩ := zi_if h
        refine zv_iast hB zd78_13 rfl rfl (zi_ix_ok c2).1 (zi_ix_ok c2).2 ?_
        refine zv_iincw hB zd78_14 rfl rfl ?_
        refine zv_goto hB zd78_17 rfl ?_
        exact ih _ _ _ _ q h hK
  unfold zf_Arrays_fill_1000 at h
  refine zv_con hB zd78_0 rfl ?_
  refine zv_ist hB zd78_1 rfl rfl rfl ?_
  refine zv_ald hB zd78_2 rfl rfl rfl ?_
  refine zv_alen (v := 1000) hB zd78_3 rfl rfl rfl rfl ?_
  refine zv_ist hB zd78_4 rfl rfl rfl ?_
  obtain ⟨q3, hq3, h⟩ := zi_bind h
  refine l0 _ _ _ _ _ q3 hq3 ?_
  show good 20 [.inr 1000, .inr 1000, .inr 1000, .inr 1000] [] [] [q3]
  have hw := Option.some.inj h
  subst hw
  exact hvret _ _ _ _ zd78_20 trivial ⟨rfl, rfl, rfl⟩
/-! Chooser_offer (II)V -/
-- names: 0 Chooser('arg', 0), 1 (0, 24)(0, 11, 4), 2 (0, 1000)(0, 11, 5), 3 (0, 24)(0, 11, 3), 4 (0, 1000)(0, 11, 6)
-- fields: ; arrays: g0 = 1, g1 = 2, g2 = 3, g3 = 4; out: [('g', 1), ('g', 3)]
abbrev zy_Chooser_offer : zNL := (5, [(0, 11)], [], [(0, 11, 4, 1), (0, 11, 5, 2), (0, 11, 3, 3), (0, 11, 6, 4)], [(1, 0, 24, 0), (2, 0, 1000, 1), (3, 0, 24, 2), (4, 0, 1000, 3)])
theorem zyw_Chooser_offer : zv_wf zy_Chooser_offer = true := by decide +kernel
theorem zye_Chooser_offer : zv_ek2 zy_Chooser_offer = true := by decide +kernel
def zf_Chooser_offer_l0_b (x1 : Int) (g0 : (Int → Int)) (g2 : (Int → Int)) (rec : Int → (Int → Int) → (Int → Int) → Option ((Int → Int) × (Int → Int))) (x3 : Int) (g1 : (Int → Int)) (g3 : (Int → Int)) : Option ((Int → Int) × (Int → Int)) := cond (zi_ix x1 24) (if x3 < (g0 x1) then (some (g1, g3)) else (cond (zi_ix (zi_w (x3 - (g0 x1))) 1000) (cond (zi_ix x3 1000) (if (g1 x3) < (zi_w ((g1 (zi_w (x3 - (g0 x1)))) + (g2 x1))) then (rec (zi_w (x3 + (-1))) (zv_up g1 x3 (zi_w ((g1 (zi_w (x3 - (g0 x1)))) + (g2 x1)))) (zv_up g3 x3 (zi_or (g3 (zi_w (x3 - (g0 x1)))) (zi_shl 1 x1)))) else (rec (zi_w (x3 + (-1))) g1 g3)) none) none)) none
def zf_Chooser_offer_l0 (x1 : Int) (g0 : (Int → Int)) (g2 : (Int → Int)) : Nat → Int → (Int → Int) → (Int → Int) → Option ((Int → Int) × (Int → Int))
  | 0, _, _, _ => none
  | n + 1, x3, g1, g3 => zf_Chooser_offer_l0_b x1 g0 g2 (zf_Chooser_offer_l0 x1 g0 g2 n) x3 g1 g3
def zf_Chooser_offer (x1 : Int) (x2 : Int) (g0 : (Int → Int)) (g1 : (Int → Int)) (g2 : (Int → Int)) (g3 : (Int → Int)) : Option ((Int → Int) × (Int → Int)) := (zf_Chooser_offer_l0 x1 g0 g2 zi_fu x2 g1 g3).bind fun q6 => (some (q6.1, q6.2))
theorem zd148_0 : decode zxm148.2.1 0 = .ok (.iload_n 2, 1) := by decide +kernel
theorem zd148_1 : decode zxm148.2.1 1 = .ok (.istore_n 3, 1) := by decide +kernel
theorem zd148_2 : decode zxm148.2.1 2 = .ok (.iload_n 3, 1) := by decide +kernel
theorem zd148_3 : decode zxm148.2.1 3 = .ok (.aload_n 0, 1) := by decide +kernel
theorem zd148_4 : decode zxm148.2.1 4 = .ok (.getfield 24, 3) := by decide +kernel
theorem zd148_7 : decode zxm148.2.1 7 = .ok (.iload_n 1, 1) := by decide +kernel
theorem zd148_8 : decode zxm148.2.1 8 = .ok (.iaload, 1) := by decide +kernel
theorem zd148_9 : decode zxm148.2.1 9 = .ok (.if_icmp .lt 79, 3) := by decide +kernel
theorem zd148_12 : decode zxm148.2.1 12 = .ok (.iload_n 3, 1) := by decide +kernel
theorem zd148_13 : decode zxm148.2.1 13 = .ok (.aload_n 0, 1) := by decide +kernel
theorem zd148_14 : decode zxm148.2.1 14 = .ok (.getfield 24, 3) := by decide +kernel
theorem zd148_17 : decode zxm148.2.1 17 = .ok (.iload_n 1, 1) := by decide +kernel
theorem zd148_18 : decode zxm148.2.1 18 = .ok (.iaload, 1) := by decide +kernel
theorem zd148_19 : decode zxm148.2.1 19 = .ok (.isub, 1) := by decide +kernel
theorem zd148_20 : decode zxm148.2.1 20 = .ok (.istore 4, 2) := by decide +kernel
theorem zd148_22 : decode zxm148.2.1 22 = .ok (.aload_n 0, 1) := by decide +kernel
theorem zd148_23 : decode zxm148.2.1 23 = .ok (.getfield 27, 3) := by decide +kernel
theorem zd148_26 : decode zxm148.2.1 26 = .ok (.iload 4, 2) := by decide +kernel
theorem zd148_28 : decode zxm148.2.1 28 = .ok (.iaload, 1) := by decide +kernel
theorem zd148_29 : decode zxm148.2.1 29 = .ok (.aload_n 0, 1) := by decide +kernel
theorem zd148_30 : decode zxm148.2.1 30 = .ok (.getfield 21, 3) := by decide +kernel
theorem zd148_33 : decode zxm148.2.1 33 = .ok (.iload_n 1, 1) := by decide +kernel
theorem zd148_34 : decode zxm148.2.1 34 = .ok (.iaload, 1) := by decide +kernel
theorem zd148_35 : decode zxm148.2.1 35 = .ok (.iadd, 1) := by decide +kernel
theorem zd148_36 : decode zxm148.2.1 36 = .ok (.aload_n 0, 1) := by decide +kernel
theorem zd148_37 : decode zxm148.2.1 37 = .ok (.getfield 27, 3) := by decide +kernel
theorem zd148_40 : decode zxm148.2.1 40 = .ok (.iload_n 3, 1) := by decide +kernel
theorem zd148_41 : decode zxm148.2.1 41 = .ok (.iaload, 1) := by decide +kernel
theorem zd148_42 : decode zxm148.2.1 42 = .ok (.if_icmp .le 40, 3) := by decide +kernel
theorem zd148_45 : decode zxm148.2.1 45 = .ok (.aload_n 0, 1) := by decide +kernel
theorem zd148_46 : decode zxm148.2.1 46 = .ok (.getfield 27, 3) := by decide +kernel
theorem zd148_49 : decode zxm148.2.1 49 = .ok (.iload_n 3, 1) := by decide +kernel
theorem zd148_50 : decode zxm148.2.1 50 = .ok (.aload_n 0, 1) := by decide +kernel
theorem zd148_51 : decode zxm148.2.1 51 = .ok (.getfield 27, 3) := by decide +kernel
theorem zd148_54 : decode zxm148.2.1 54 = .ok (.iload 4, 2) := by decide +kernel
theorem zd148_56 : decode zxm148.2.1 56 = .ok (.iaload, 1) := by decide +kernel
theorem zd148_57 : decode zxm148.2.1 57 = .ok (.aload_n 0, 1) := by decide +kernel
theorem zd148_58 : decode zxm148.2.1 58 = .ok (.getfield 21, 3) := by decide +kernel
theorem zd148_61 : decode zxm148.2.1 61 = .ok (.iload_n 1, 1) := by decide +kernel
theorem zd148_62 : decode zxm148.2.1 62 = .ok (.iaload, 1) := by decide +kernel
theorem zd148_63 : decode zxm148.2.1 63 = .ok (.iadd, 1) := by decide +kernel
theorem zd148_64 : decode zxm148.2.1 64 = .ok (.iastore, 1) := by decide +kernel
theorem zd148_65 : decode zxm148.2.1 65 = .ok (.aload_n 0, 1) := by decide +kernel
theorem zd148_66 : decode zxm148.2.1 66 = .ok (.getfield 30, 3) := by decide +kernel
theorem zd148_69 : decode zxm148.2.1 69 = .ok (.iload_n 3, 1) := by decide +kernel
theorem zd148_70 : decode zxm148.2.1 70 = .ok (.aload_n 0, 1) := by decide +kernel
theorem zd148_71 : decode zxm148.2.1 71 = .ok (.getfield 30, 3) := by decide +kernel
theorem zd148_74 : decode zxm148.2.1 74 = .ok (.iload 4, 2) := by decide +kernel
theorem zd148_76 : decode zxm148.2.1 76 = .ok (.iaload, 1) := by decide +kernel
theorem zd148_77 : decode zxm148.2.1 77 = .ok (.iconst 1, 1) := by decide +kernel
theorem zd148_78 : decode zxm148.2.1 78 = .ok (.iload_n 1, 1) := by decide +kernel
theorem zd148_79 : decode zxm148.2.1 79 = .ok (.ishl, 1) := by decide +kernel
theorem zd148_80 : decode zxm148.2.1 80 = .ok (.ior, 1) := by decide +kernel
theorem zd148_81 : decode zxm148.2.1 81 = .ok (.iastore, 1) := by decide +kernel
theorem zd148_82 : decode zxm148.2.1 82 = .ok (.iinc 3 (-1), 3) := by decide +kernel
theorem zd148_85 : decode zxm148.2.1 85 = .ok (.goto (-83), 3) := by decide +kernel
theorem zd148_88 : decode zxm148.2.1 88 = .ok (.return_, 1) := by decide +kernel
theorem zt_Chooser_offer {x1 : Int} {x2 : Int} {g0 : (Int → Int)} {g1 : (Int → Int)} {g2 : (Int → Int)} {g3 : (Int → Int)} {o : (Int → Int) × (Int → Int)} (h : zf_Chooser_offer x1 x2 g0 g1 g2 g3 = some o) : zv_Fn z_TB z_cl z_KX zy_Chooser_offer zxm148 (0, 0) [.inr 0, .inl x1, .inl x2] [] [g0, g1, g2, g3] none [] [g0, o.1, g2, o.2] := zv_meth (K := (z_KF1, z_KC1, z_KL1, z_KT1, [], [], [], none)) (FT := z_FT) (MT := z_MT) (n := 3) zxp148 (z_ks1 _ (fun _ h => List.mem_cons_of_mem _ h) _ _ _ _ (fun j r h _ => by cases h)) (fun _ _ => zs_KX_p) zyw_Chooser_offer (fun va F G h => by obtain ⟨rfl, _⟩ := h; rfl) (fun va F G h => by obtain ⟨rfl, _⟩ := h; rfl) rfl fun good va F G hB hret hvret hP => by
  obtain ⟨rfl, rfl, rfl⟩ := hP
  have l0 : ∀ (n : Nat) (x1 : Int) (x3 : Int) (g1 : (Int → Int)) (g3 : (Int → Int)) (q : (Int → Int) × (Int → Int)), zf_Chooser_offer_l0 x1 g0 g2 n x3 g1 g3 = some q → (good 88 [.inr 1000, .inr 1000, .inr 1000, .inr 1000, .inr 1000] [] [] [g0, q.1, g2, q.2]) → good 2 [.inr 0, .inl x1, .inr 1000, .inl x3, .inr 1000] [] [] [g0, g1, g2, g3] := by
    intro n
    induction n with
    | zero => intro x1 x3 g1 g3 q h; exact absurd (show none = some q from h) (fun h => by cases h)
    | succ n ih =>
      intro x1 x3 g1 g3 q h hK
      replace h : zf_Chooser_offer_l0_b x1 g0 g2 (zf_Chooser_offer_l0 x1 g0 g2 n) x3 g1 g3 = some q := h
      unfold zf_Chooser_offer_l0_b at h
      refine zv_ild hB zd148_2 rfl rfl ?_
      refine zv_ald hB zd148_3 rfl rfl rfl ?_
      refine zv_getr hB zd148_4 rfl ?_
      refine zv_ild hB zd148_7 rfl rfl ?_
      obtain ⟨c1, h⟩ := zi_if h
      refine zv_iald hB zd148_8 rfl rfl (zi_ix_ok c1).1 (zi_ix_ok c1).2 (fun _ _ => ?_)
      refine zv_clt hB zd148_9 rfl (fun hc2 => ?_) (fun hc2 => ?_)
      · rw [if_pos hc2] at h
        have hq := Option.some.inj h
        subst hq
        refine zv_wk hB (L' := [.inr 1000, .inr 1000, .inr 1000, .inr 1000, .inr 1000]) (F' := []) ⟨fun (h : zv_is (.inr 1000)) => (Nat.lt_irrefl 1000 h).elim, fun (h : zv_is (.inr 1000)) => (Nat.lt_irrefl 1000 h).elim, fun (h : zv_is (.inr 1000)) => (Nat.lt_irrefl 1000 h).elim, fun (h : zv_is (.inr 1000)) => (Nat.lt_irrefl 1000 h).elim, fun (h : zv_is (.inr 1000)) => (Nat.lt_irrefl 1000 h).elim, trivial⟩ trivial ?_
        exact hK
      · rw [if_neg (Int.not_lt.mpr hc2)] at h
        refine zv_ild hB zd148_12 rfl rfl ?_
        refine zv_ald hB zd148_13 rfl rfl rfl ?_
        refine zv_getr hB zd148_14 rfl ?_
        refine zv_ild hB zd148_17 rfl rfl ?_
        refine zv_iald hB zd148_18 rfl rfl (zi_ix_ok c1).1 (zi_ix_ok c1).2 (fun _ _ => ?_)
        refine zv_subw hB zd148_19 ?_
        refine zv_ist hB zd148_20 rfl rfl rfl ?_
        refine zv_ald hB zd148_22 rfl rfl rfl ?_
        refine zv_getr hB zd148_23 rfl ?_
        refine zv_ild hB zd148_26 rfl rfl ?_
        obtain ⟨c3, h⟩ := zi_if h
        refine zv_iald hB zd148_28 rfl rfl (zi_ix_ok c3).1 (zi_ix_ok c3).2 (fun _ _ => ?_)
        refine zv_ald hB zd148_29 rfl rfl rfl ?_
        refine zv_getr hB zd148_30 rfl ?_
        refine zv_ild hB zd148_33 rfl rfl ?_
        refine zv_iald hB zd148_34 rfl rfl (zi_ix_ok c1).1 (zi_ix_ok c1).2 (fun _ _ => ?_)
        refine zv_addw hB zd148_35 ?_
        refine zv_ald hB zd148_36 rfl rfl rfl ?_
        refine zv_getr hB zd148_37 rfl ?_
        refine zv_ild hB zd148_40 rfl rfl ?_
        obtain ⟨c4, h⟩ := zi_if h
        refine zv_iald hB zd148_41 rfl rfl (zi_ix_ok c4).1 (zi_ix_ok c4).2 (fun _ _ => ?_)
        refine zv_cle hB zd148_42 rfl (fun hc5 => ?_) (fun hc5 => ?_)
        · rw [if_neg (Int.not_lt.mpr hc5)] at h
          refine zv_iincw hB zd148_82 rfl rfl ?_
          refine zv_goto hB zd148_85 rfl ?_
          refine zv_wk hB (L' := [.inr 0, .inl x1, .inr 1000, .inl (zi_w (x3 + (-1))), .inr 1000]) (F' := []) ⟨fun _ => rfl, fun _ => rfl, fun (h : zv_is (.inr 1000)) => (Nat.lt_irrefl 1000 h).elim, fun _ => rfl, fun (h : zv_is (.inr 1000)) => (Nat.lt_irrefl 1000 h).elim, trivial⟩ trivial ?_
          exact ih _ _ _ _ q h hK
        · rw [if_pos hc5] at h
          refine zv_ald hB zd148_45 rfl rfl rfl ?_
          refine zv_getr hB zd148_46 rfl ?_
          refine zv_ild hB zd148_49 rfl rfl ?_
          refine zv_ald hB zd148_50 rfl rfl rfl ?_
          refine zv_getr hB zd148_51 rfl ?_
          refine zv_ild hB zd148_54 rfl rfl ?_
          refine zv_iald hB zd148_56 rfl rfl (zi_ix_ok c3).1 (zi_ix_ok c3).2 (fun _ _ => ?_)
          refine zv_ald hB zd148_57 rfl rfl rfl ?_
          refine zv_getr hB zd148_58 rfl ?_
          refine zv_ild hB zd148_61 rfl rfl ?_
          refine zv_iald hB zd148_62 rfl rfl (zi_ix_ok c1).1 (zi_ix_ok c1).2 (fun _ _ => ?_)
          refine zv_addw hB zd148_63 ?_
          refine zv_iast hB zd148_64 rfl rfl (zi_ix_ok c4).1 (zi_ix_ok c4).2 ?_
          refine zv_ald hB zd148_65 rfl rfl rfl ?_
          refine zv_getr hB zd148_66 rfl ?_
          refine zv_ild hB zd148_69 rfl rfl ?_
          refine zv_ald hB zd148_70 rfl rfl rfl ?_
          refine zv_getr hB zd148_71 rfl ?_
          refine zv_ild hB zd148_74 rfl rfl ?_
          refine zv_iald hB zd148_76 rfl rfl (zi_ix_ok c3).1 (zi_ix_ok c3).2 (fun _ _ => ?_)
          refine zv_con hB zd148_77 rfl ?_
          refine zv_ild hB zd148_78 rfl rfl ?_
          refine zv_shlw hB zd148_79 ?_
          refine zv_orw hB zd148_80 ?_
          refine zv_iast hB zd148_81 rfl rfl (zi_ix_ok c4).1 (zi_ix_ok c4).2 ?_
          refine zv_iincw hB zd148_82 rfl rfl ?_
          refine zv_goto hB zd148_85 rfl ?_
          refine zv_wk hB (L' := [.inr 0, .inl x1, .inr 1000, .inl (zi_w (x3 + (-1))), .inr 1000]) (F' := []) ⟨fun _ => rfl, fun _ => rfl, fun (h : zv_is (.inr 1000)) => (Nat.lt_irrefl 1000 h).elim, fun _ => rfl, fun (h : zv_is (.inr 1000)) => (Nat.lt_irrefl 1000 h).elim, trivial⟩ trivial ?_
          exact ih _ _ _ _ q h hK
  unfold zf_Chooser_offer at h
  refine zv_ild hB zd148_0 rfl rfl ?_
  refine zv_ist hB zd148_1 rfl rfl rfl ?_
  obtain ⟨q6, hq6, h⟩ := zi_bind h
  refine zv_wk hB (L' := [.inr 0, .inl x1, .inr 1000, .inl x2, .inr 1000]) (F' := []) ⟨fun _ => rfl, fun _ => rfl, fun (h : zv_is (.inr 1000)) => (Nat.lt_irrefl 1000 h).elim, fun _ => rfl, fun (h : zv_is (.inr 1000)) => (Nat.lt_irrefl 1000 h).elim, trivial⟩ trivial ?_
  refine l0 _ _ _ _ _ q6 hq6 ?_
  show good 88 [.inr 1000, .inr 1000, .inr 1000, .inr 1000, .inr 1000] [] [] [g0, q6.1, g2, q6.2]
  have hw := Option.some.inj h
  subst hw
  exact hvret _ _ _ _ zd148_88 trivial ⟨rfl, rfl, rfl⟩
/-! Chooser_bestSold (II)I -/
-- names: 0 Chooser('arg', 0), 1 (0, 1000)(0, 11, 5), 2 (0, 1000)(0, 11, 6), 3 (0, 24)(0, 11, 3), 4 (0, 24)(0, 11, 4)
-- fields: ; arrays: g0 = 1, g1 = 2, g2 = 3, g3 = 4; out: [('ret', None), ('g', 0), ('g', 1)]
abbrev zy_Chooser_bestSold : zNL := (5, [(0, 11)], [], [(0, 11, 5, 1), (0, 11, 6, 2), (0, 11, 3, 3), (0, 11, 4, 4)], [(1, 0, 1000, 0), (2, 0, 1000, 1), (3, 0, 24, 2), (4, 0, 24, 3)])
theorem zyw_Chooser_bestSold : zv_wf zy_Chooser_bestSold = true := by decide +kernel
theorem zye_Chooser_bestSold : zv_ek2 zy_Chooser_bestSold = true := by decide +kernel
def zf_Chooser_bestSold_l0_b (x1 : Int) (x2 : Int) (g2 : (Int → Int)) (g3 : (Int → Int)) (rec : Int → (Int → Int) → (Int → Int) → Option ((Int → Int) × (Int → Int))) (x3 : Int) (g0 : (Int → Int)) (g1 : (Int → Int)) : Option ((Int → Int) × (Int → Int)) := if x3 < 24 then (if (zi_and (zi_shr x1 x3) 1) = 0 then (rec (zi_w (x3 + 1)) g0 g1) else (cond (zi_ix x3 24) (if 0 < (g2 x3) then ((zf_Chooser_offer x3 x2 g3 g0 g2 g1).bind fun r7 => (rec (zi_w (x3 + 1)) r7.1 r7.2)) else (rec (zi_w (x3 + 1)) g0 g1)) none)) else (some (g0, g1))
def zf_Chooser_bestSold_l0 (x1 : Int) (x2 : Int) (g2 : (Int → Int)) (g3 : (Int → Int)) : Nat → Int → (Int → Int) → (Int → Int) → Option ((Int → Int) × (Int → Int))
  | 0, _, _, _ => none
  | n + 1, x3, g0, g1 => zf_Chooser_bestSold_l0_b x1 x2 g2 g3 (zf_Chooser_bestSold_l0 x1 x2 g2 g3 n) x3 g0 g1
def zf_Chooser_bestSold (x1 : Int) (x2 : Int) (g0 : (Int → Int)) (g1 : (Int → Int)) (g2 : (Int → Int)) (g3 : (Int → Int)) : Option (Int × (Int → Int) × (Int → Int)) := (zf_Arrays_fill_1000 0 g0).bind fun r1 => ((zf_Arrays_fill_1000 0 g1).bind fun r2 => ((zf_Chooser_bestSold_l0 x1 x2 g2 g3 zi_fu 0 r1 r2).bind fun q8 => (cond (zi_ix x2 1000) (some ((q8.2 x2), q8.1, q8.2)) none)))
theorem zd147_0 : decode zxm147.2.1 0 = .ok (.aload_n 0, 1) := by decide +kernel
theorem zd147_1 : decode zxm147.2.1 1 = .ok (.getfield 27, 3) := by decide +kernel
theorem zd147_4 : decode zxm147.2.1 4 = .ok (.iconst 0, 1) := by decide +kernel
theorem zd147_5 : decode zxm147.2.1 5 = .ok (.invokestatic 74, 3) := by decide +kernel
theorem zd147_8 : decode zxm147.2.1 8 = .ok (.aload_n 0, 1) := by decide +kernel
theorem zd147_9 : decode zxm147.2.1 9 = .ok (.getfield 30, 3) := by decide +kernel
theorem zd147_12 : decode zxm147.2.1 12 = .ok (.iconst 0, 1) := by decide +kernel
theorem zd147_13 : decode zxm147.2.1 13 = .ok (.invokestatic 74, 3) := by decide +kernel
theorem zd147_16 : decode zxm147.2.1 16 = .ok (.iconst 0, 1) := by decide +kernel
theorem zd147_17 : decode zxm147.2.1 17 = .ok (.istore_n 3, 1) := by decide +kernel
theorem zd147_18 : decode zxm147.2.1 18 = .ok (.iload_n 3, 1) := by decide +kernel
theorem zd147_19 : decode zxm147.2.1 19 = .ok (.bipush 24, 2) := by decide +kernel
theorem zd147_21 : decode zxm147.2.1 21 = .ok (.if_icmp .ge 32, 3) := by decide +kernel
theorem zd147_24 : decode zxm147.2.1 24 = .ok (.iload_n 1, 1) := by decide +kernel
theorem zd147_25 : decode zxm147.2.1 25 = .ok (.iload_n 3, 1) := by decide +kernel
theorem zd147_26 : decode zxm147.2.1 26 = .ok (.ishr, 1) := by decide +kernel
theorem zd147_27 : decode zxm147.2.1 27 = .ok (.iconst 1, 1) := by decide +kernel
theorem zd147_28 : decode zxm147.2.1 28 = .ok (.iand, 1) := by decide +kernel
theorem zd147_29 : decode zxm147.2.1 29 = .ok (.ifCond .eq 18, 3) := by decide +kernel
theorem zd147_32 : decode zxm147.2.1 32 = .ok (.aload_n 0, 1) := by decide +kernel
theorem zd147_33 : decode zxm147.2.1 33 = .ok (.getfield 21, 3) := by decide +kernel
theorem zd147_36 : decode zxm147.2.1 36 = .ok (.iload_n 3, 1) := by decide +kernel
theorem zd147_37 : decode zxm147.2.1 37 = .ok (.iaload, 1) := by decide +kernel
theorem zd147_38 : decode zxm147.2.1 38 = .ok (.ifCond .le 9, 3) := by decide +kernel
theorem zd147_41 : decode zxm147.2.1 41 = .ok (.aload_n 0, 1) := by decide +kernel
theorem zd147_42 : decode zxm147.2.1 42 = .ok (.iload_n 3, 1) := by decide +kernel
theorem zd147_43 : decode zxm147.2.1 43 = .ok (.iload_n 2, 1) := by decide +kernel
theorem zd147_44 : decode zxm147.2.1 44 = .ok (.invokevirtual 80, 3) := by decide +kernel
theorem zd147_47 : decode zxm147.2.1 47 = .ok (.iinc 3 1, 3) := by decide +kernel
theorem zd147_50 : decode zxm147.2.1 50 = .ok (.goto (-32), 3) := by decide +kernel
theorem zd147_53 : decode zxm147.2.1 53 = .ok (.aload_n 0, 1) := by decide +kernel
theorem zd147_54 : decode zxm147.2.1 54 = .ok (.getfield 30, 3) := by decide +kernel
theorem zd147_57 : decode zxm147.2.1 57 = .ok (.iload_n 2, 1) := by decide +kernel
theorem zd147_58 : decode zxm147.2.1 58 = .ok (.iaload, 1) := by decide +kernel
theorem zd147_59 : decode zxm147.2.1 59 = .ok (.ireturn, 1) := by decide +kernel
theorem zt_Chooser_bestSold {x1 : Int} {x2 : Int} {g0 : (Int → Int)} {g1 : (Int → Int)} {g2 : (Int → Int)} {g3 : (Int → Int)} {o : Int × (Int → Int) × (Int → Int)} (h : zf_Chooser_bestSold x1 x2 g0 g1 g2 g3 = some o) : zv_Fn z_TB z_cl z_KX zy_Chooser_bestSold zxm147 (1, 60) [.inr 0, .inl x1, .inl x2] [] [g0, g1, g2, g3] (some o.1) [] [o.2.1, o.2.2, g2, g3] := zv_meth (K := (z_KF1, z_KC1, z_KL1, z_KT1, [], [], [], none)) (FT := z_FT) (MT := z_MT) (n := 3) zxp147 (z_ks1 _ (fun _ h => List.mem_cons_of_mem _ h) _ _ _ _ (fun j r h _ => by cases h)) (fun _ _ => zs_KX_p) zyw_Chooser_bestSold (fun va F G h => by obtain ⟨rfl, _⟩ := h; rfl) (fun va F G h => by obtain ⟨rfl, _⟩ := h; rfl) rfl fun good va F G hB hret hvret hP => by
  obtain ⟨rfl, rfl, rfl⟩ := hP
  have l0 : ∀ (n : Nat) (x1 : Int) (x2 : Int) (x3 : Int) (g0 : (Int → Int)) (g1 : (Int → Int)) (q : (Int → Int) × (Int → Int)), zf_Chooser_bestSold_l0 x1 x2 g2 g3 n x3 g0 g1 = some q → (good 53 [.inr 0, .inr 1000, .inl x2, .inr 1000] [] [] [q.1, q.2, g2, g3]) → good 18 [.inr 0, .inl x1, .inl x2, .inl x3] [] [] [g0, g1, g2, g3] := by
    intro n
    induction n with
    | zero => intro x1 x2 x3 g0 g1 q h; exact absurd (show none = some q from h) (fun h => by cases h)
    | succ n ih =>
      intro x1 x2 x3 g0 g1 q h hK
      replace h : zf_Chooser_bestSold_l0_b x1 x2 g2 g3 (zf_Chooser_bestSold_l0 x1 x2 g2 g3 n) x3 g0 g1 = some q := h
      unfold zf_Chooser_bestSold_l0_b at h
      refine zv_ild hB zd147_18 rfl rfl ?_
      refine zv_con hB zd147_19 rfl ?_
      refine zv_cge hB zd147_21 rfl (fun hc3 => ?_) (fun hc3 => ?_)
      · rw [if_neg (Int.not_lt.mpr hc3)] at h
        have hq := Option.some.inj h
        subst hq
        refine zv_wk hB (L' := [.inr 0, .inr 1000, .inl x2, .inr 1000]) (F' := []) ⟨fun _ => rfl, fun (h : zv_is (.inr 1000)) => (Nat.lt_irrefl 1000 h).elim, fun _ => rfl, fun (h : zv_is (.inr 1000)) => (Nat.lt_irrefl 1000 h).elim, trivial⟩ trivial ?_
        exact hK
      · rw [if_pos hc3] at h
        refine zv_ild hB zd147_24 rfl rfl ?_
        refine zv_ild hB zd147_25 rfl rfl ?_
        refine zv_shrw hB zd147_26 ?_
        refine zv_con hB zd147_27 rfl ?_
        refine zv_andw hB zd147_28 ?_
        refine zv_zeq hB zd147_29 rfl (fun hc4 => ?_) (fun hc4 => ?_)
        · rw [if_pos hc4] at h
          refine zv_iincw hB zd147_47 rfl rfl ?_
          refine zv_goto hB zd147_50 rfl ?_
          exact ih _ _ _ _ _ q h hK
        · rw [if_neg hc4] at h
          refine zv_ald hB zd147_32 rfl rfl rfl ?_
          refine zv_getr hB zd147_33 rfl ?_
          refine zv_ild hB zd147_36 rfl rfl ?_
          obtain ⟨c5, h⟩ := zi_if h
          refine zv_iald hB zd147_37 rfl rfl (zi_ix_ok c5).1 (zi_ix_ok c5).2 (fun _ _ => ?_)
          refine zv_zle hB zd147_38 rfl (fun hc6 => ?_) (fun hc6 => ?_)
          · rw [if_neg (Int.not_lt.mpr hc6)] at h
            refine zv_iincw hB zd147_47 rfl rfl ?_
            refine zv_goto hB zd147_50 rfl ?_
            exact ih _ _ _ _ _ q h hK
          · rw [if_pos hc6] at h
            refine zv_ald hB zd147_41 rfl rfl rfl ?_
            refine zv_ild hB zd147_42 rfl rfl ?_
            refine zv_ild hB zd147_43 rfl rfl ?_
            obtain ⟨r7, hr7, h⟩ := zi_bind h
            refine zv_cv hB (zv_emq (va2 := [.inr 0, .inl x3, .inl x2]) (F := []) (F' := []) (G := [g0, g1, g2, g3]) (G' := [r7.1, r7.2, g2, g3]) (ρ := [0, 4, 1, 3, 2]) (φ := []) (ψ := [3, 0, 2, 1]) [] [some 1, some 3, some 2, some 0] zyw_Chooser_offer zyw_Chooser_bestSold zye_Chooser_bestSold (by decide +kernel) (zt_Chooser_offer hr7) trivial ⟨rfl, rfl, rfl, rfl, trivial⟩ rfl rfl rfl rfl rfl rfl rfl) zd147_44 zxt148 rfl (by decide) (by decide) rfl ?_
            refine zv_iincw hB zd147_47 rfl rfl ?_
            refine zv_goto hB zd147_50 rfl ?_
            exact ih _ _ _ _ _ q h hK
  unfold zf_Chooser_bestSold at h
  refine zv_ald hB zd147_0 rfl rfl rfl ?_
  refine zv_getr hB zd147_1 rfl ?_
  refine zv_con hB zd147_4 rfl ?_
  obtain ⟨r1, hr1, h⟩ := zi_bind h
  refine zv_cs hB (zv_emq (va2 := [.inr 1, .inl 0]) (F := []) (F' := []) (G := [g0, g1, g2, g3]) (G' := [r1, g1, g2, g3]) (ρ := [1]) (φ := []) (ψ := [0]) [] [some 0, none, none, none] zyw_Arrays_fill_1000 zyw_Chooser_bestSold zye_Chooser_bestSold (by decide +kernel) (zt_Arrays_fill_1000 hr1) trivial ⟨rfl, trivial⟩ rfl rfl rfl rfl rfl rfl rfl) zd147_5 zxt78 rfl (by decide) (by decide) rfl ?_
  refine zv_ald hB zd147_8 rfl rfl rfl ?_
  refine zv_getr hB zd147_9 rfl ?_
  refine zv_con hB zd147_12 rfl ?_
  obtain ⟨r2, hr2, h⟩ := zi_bind h
  refine zv_cs hB (zv_emq (va2 := [.inr 2, .inl 0]) (F := []) (F' := []) (G := [r1, g1, g2, g3]) (G' := [r1, r2, g2, g3]) (ρ := [2]) (φ := []) (ψ := [1]) [] [none, some 0, none, none] zyw_Arrays_fill_1000 zyw_Chooser_bestSold zye_Chooser_bestSold (by decide +kernel) (zt_Arrays_fill_1000 hr2) trivial ⟨rfl, trivial⟩ rfl rfl rfl rfl rfl rfl rfl) zd147_13 zxt78 rfl (by decide) (by decide) rfl ?_
  refine zv_con hB zd147_16 rfl ?_
  refine zv_ist hB zd147_17 rfl rfl rfl ?_
  obtain ⟨q8, hq8, h⟩ := zi_bind h
  refine l0 _ _ _ _ _ _ q8 hq8 ?_
  show good 53 [.inr 0, .inr 1000, .inl x2, .inr 1000] [] [] [q8.1, q8.2, g2, g3]
  refine zv_ald hB zd147_53 rfl rfl rfl ?_
  refine zv_getr hB zd147_54 rfl ?_
  refine zv_ild hB zd147_57 rfl rfl ?_
  obtain ⟨c9, h⟩ := zi_if h
  refine zv_iald hB zd147_58 rfl rfl (zi_ix_ok c9).1 (zi_ix_ok c9).2 (fun _ _ => ?_)
  have hw := Option.some.inj h
  subst hw
  exact hret _ _ _ _ _ zd147_59 (by trivial) ⟨rfl, rfl, rfl⟩
/-! Chooser_worthOf (I)I -/
-- names: 0 Chooser('arg', 0), 1 (0, 24)(0, 11, 3)
-- fields: ; arrays: g0 = 1; out: [('ret', None)]
abbrev zy_Chooser_worthOf : zNL := (2, [(0, 11)], [], [(0, 11, 3, 1)], [(1, 0, 24, 0)])
theorem zyw_Chooser_worthOf : zv_wf zy_Chooser_worthOf = true := by decide +kernel
theorem zye_Chooser_worthOf : zv_ek2 zy_Chooser_worthOf = true := by decide +kernel
def zf_Chooser_worthOf_l0_b (x1 : Int) (g0 : (Int → Int)) (rec : Int → Int → Option (Int)) (x2 : Int) (x3 : Int) : Option (Int) := if x3 < 24 then (cond (zi_ix x3 24) (rec (zi_w (x2 + (zi_w ((zi_and (zi_shr x1 x3) 1) * (g0 x3))))) (zi_w (x3 + 1))) none) else (some x2)
def zf_Chooser_worthOf_l0 (x1 : Int) (g0 : (Int → Int)) : Nat → Int → Int → Option (Int)
  | 0, _, _ => none
  | n + 1, x2, x3 => zf_Chooser_worthOf_l0_b x1 g0 (zf_Chooser_worthOf_l0 x1 g0 n) x2 x3
def zf_Chooser_worthOf (x1 : Int) (g0 : (Int → Int)) : Option (Int) := (zf_Chooser_worthOf_l0 x1 g0 zi_fu 0 0).bind fun q3 => (some q3)
theorem zd149_0 : decode zxm149.2.1 0 = .ok (.iconst 0, 1) := by decide +kernel
theorem zd149_1 : decode zxm149.2.1 1 = .ok (.istore_n 2, 1) := by decide +kernel
theorem zd149_2 : decode zxm149.2.1 2 = .ok (.iconst 0, 1) := by decide +kernel
theorem zd149_3 : decode zxm149.2.1 3 = .ok (.istore_n 3, 1) := by decide +kernel
theorem zd149_4 : decode zxm149.2.1 4 = .ok (.iload_n 3, 1) := by decide +kernel
theorem zd149_5 : decode zxm149.2.1 5 = .ok (.bipush 24, 2) := by decide +kernel
theorem zd149_7 : decode zxm149.2.1 7 = .ok (.if_icmp .ge 24, 3) := by decide +kernel
theorem zd149_10 : decode zxm149.2.1 10 = .ok (.iload_n 2, 1) := by decide +kernel
theorem zd149_11 : decode zxm149.2.1 11 = .ok (.iload_n 1, 1) := by decide +kernel
theorem zd149_12 : decode zxm149.2.1 12 = .ok (.iload_n 3, 1) := by decide +kernel
theorem zd149_13 : decode zxm149.2.1 13 = .ok (.ishr, 1) := by decide +kernel
theorem zd149_14 : decode zxm149.2.1 14 = .ok (.iconst 1, 1) := by decide +kernel
theorem zd149_15 : decode zxm149.2.1 15 = .ok (.iand, 1) := by decide +kernel
theorem zd149_16 : decode zxm149.2.1 16 = .ok (.aload_n 0, 1) := by decide +kernel
theorem zd149_17 : decode zxm149.2.1 17 = .ok (.getfield 21, 3) := by decide +kernel
theorem zd149_20 : decode zxm149.2.1 20 = .ok (.iload_n 3, 1) := by decide +kernel
theorem zd149_21 : decode zxm149.2.1 21 = .ok (.iaload, 1) := by decide +kernel
theorem zd149_22 : decode zxm149.2.1 22 = .ok (.imul, 1) := by decide +kernel
theorem zd149_23 : decode zxm149.2.1 23 = .ok (.iadd, 1) := by decide +kernel
theorem zd149_24 : decode zxm149.2.1 24 = .ok (.istore_n 2, 1) := by decide +kernel
theorem zd149_25 : decode zxm149.2.1 25 = .ok (.iinc 3 1, 3) := by decide +kernel
theorem zd149_28 : decode zxm149.2.1 28 = .ok (.goto (-24), 3) := by decide +kernel
theorem zd149_31 : decode zxm149.2.1 31 = .ok (.iload_n 2, 1) := by decide +kernel
theorem zd149_32 : decode zxm149.2.1 32 = .ok (.ireturn, 1) := by decide +kernel
theorem zt_Chooser_worthOf {x1 : Int} {g0 : (Int → Int)} {o : Int} (h : zf_Chooser_worthOf x1 g0 = some o) : zv_Fn z_TB z_cl z_KX zy_Chooser_worthOf zxm149 (0, 0) [.inr 0, .inl x1] [] [g0] (some o) [] [g0] := zv_meth (K := (z_KF1, z_KC1, z_KL1, z_KT1, [], [], [], none)) (FT := z_FT) (MT := z_MT) (n := 2) zxp149 (z_ks1 _ (fun _ h => List.mem_cons_of_mem _ h) _ _ _ _ (fun j r h _ => by cases h)) (fun _ _ => zs_KX_p) zyw_Chooser_worthOf (fun va F G h => by obtain ⟨rfl, _⟩ := h; rfl) (fun va F G h => by obtain ⟨rfl, _⟩ := h; rfl) rfl fun good va F G hB hret hvret hP => by
  obtain ⟨rfl, rfl, rfl⟩ := hP
  have l0 : ∀ (n : Nat) (x1 : Int) (x2 : Int) (x3 : Int) (q : Int), zf_Chooser_worthOf_l0 x1 g0 n x2 x3 = some q → (good 31 [.inr 1000, .inr 1000, .inl q, .inr 1000] [] [] [g0]) → good 4 [.inr 0, .inl x1, .inl x2, .inl x3] [] [] [g0] := by
    intro n
    induction n with
    | zero => intro x1 x2 x3 q h; exact absurd (show none = some q from h) (fun h => by cases h)
    | succ n ih =>
      intro x1 x2 x3 q h hK
      replace h : zf_Chooser_worthOf_l0_b x1 g0 (zf_Chooser_worthOf_l0 x1 g0 n) x2 x3 = some q := h
      unfold zf_Chooser_worthOf_l0_b at h
      refine zv_ild hB zd149_4 rfl rfl ?_
      refine zv_con hB zd149_5 rfl ?_
      refine zv_cge hB zd149_7 rfl (fun hc1 => ?_) (fun hc1 => ?_)
      · rw [if_neg (Int.not_lt.mpr hc1)] at h
        have hq := Option.some.inj h
        subst hq
        refine zv_wk hB (L' := [.inr 1000, .inr 1000, .inl x2, .inr 1000]) (F' := []) ⟨fun (h : zv_is (.inr 1000)) => (Nat.lt_irrefl 1000 h).elim, fun (h : zv_is (.inr 1000)) => (Nat.lt_irrefl 1000 h).elim, fun _ => rfl, fun (h : zv_is (.inr 1000)) => (Nat.lt_irrefl 1000 h).elim, trivial⟩ trivial ?_
        exact hK
      · rw [if_pos hc1] at h
        refine zv_ild hB zd149_10 rfl rfl ?_
        refine zv_ild hB zd149_11 rfl rfl ?_
        refine zv_ild hB zd149_12 rfl rfl ?_
        refine zv_shrw hB zd149_13 ?_
        refine zv_con hB zd149_14 rfl ?_
        refine zv_andw hB zd149_15 ?_
        refine zv_ald hB zd149_16 rfl rfl rfl ?_
        refine zv_getr hB zd149_17 rfl ?_
        refine zv_ild hB zd149_20 rfl rfl ?_
        obtain ⟨c2, h⟩ := zi_if h
        refine zv_iald hB zd149_21 rfl rfl (zi_ix_ok c2).1 (zi_ix_ok c2).2 (fun _ _ => ?_)
        refine zv_mulw hB zd149_22 ?_
        refine zv_addw hB zd149_23 ?_
        refine zv_ist hB zd149_24 rfl rfl rfl ?_
        refine zv_iincw hB zd149_25 rfl rfl ?_
        refine zv_goto hB zd149_28 rfl ?_
        exact ih _ _ _ q h hK
  unfold zf_Chooser_worthOf at h
  refine zv_con hB zd149_0 rfl ?_
  refine zv_ist hB zd149_1 rfl rfl rfl ?_
  refine zv_con hB zd149_2 rfl ?_
  refine zv_ist hB zd149_3 rfl rfl rfl ?_
  obtain ⟨q3, hq3, h⟩ := zi_bind h
  refine l0 _ _ _ _ q3 hq3 ?_
  show good 31 [.inr 1000, .inr 1000, .inl q3, .inr 1000] [] [] [g0]
  refine zv_ild hB zd149_31 rfl rfl ?_
  have hw := Option.some.inj h
  subst hw
  exact hret _ _ _ _ _ zd149_32 (by trivial) ⟨rfl, rfl, rfl⟩
/-! Chooser_weightOf (I)I -/
-- names: 0 Chooser('arg', 0), 1 (0, 24)(0, 11, 4)
-- fields: ; arrays: g0 = 1; out: [('ret', None)]
abbrev zy_Chooser_weightOf : zNL := (2, [(0, 11)], [], [(0, 11, 4, 1)], [(1, 0, 24, 0)])
theorem zyw_Chooser_weightOf : zv_wf zy_Chooser_weightOf = true := by decide +kernel
theorem zye_Chooser_weightOf : zv_ek2 zy_Chooser_weightOf = true := by decide +kernel
def zf_Chooser_weightOf_l0_b (x1 : Int) (g0 : (Int → Int)) (rec : Int → Int → Option (Int)) (x2 : Int) (x3 : Int) : Option (Int) := if x3 < 24 then (cond (zi_ix x3 24) (rec (zi_w (x2 + (zi_w ((zi_and (zi_shr x1 x3) 1) * (g0 x3))))) (zi_w (x3 + 1))) none) else (some x2)
def zf_Chooser_weightOf_l0 (x1 : Int) (g0 : (Int → Int)) : Nat → Int → Int → Option (Int)
  | 0, _, _ => none
  | n + 1, x2, x3 => zf_Chooser_weightOf_l0_b x1 g0 (zf_Chooser_weightOf_l0 x1 g0 n) x2 x3
def zf_Chooser_weightOf (x1 : Int) (g0 : (Int → Int)) : Option (Int) := (zf_Chooser_weightOf_l0 x1 g0 zi_fu 0 0).bind fun q3 => (some q3)
theorem zd150_0 : decode zxm150.2.1 0 = .ok (.iconst 0, 1) := by decide +kernel
theorem zd150_1 : decode zxm150.2.1 1 = .ok (.istore_n 2, 1) := by decide +kernel
theorem zd150_2 : decode zxm150.2.1 2 = .ok (.iconst 0, 1) := by decide +kernel
theorem zd150_3 : decode zxm150.2.1 3 = .ok (.istore_n 3, 1) := by decide +kernel
theorem zd150_4 : decode zxm150.2.1 4 = .ok (.iload_n 3, 1) := by decide +kernel
theorem zd150_5 : decode zxm150.2.1 5 = .ok (.bipush 24, 2) := by decide +kernel
theorem zd150_7 : decode zxm150.2.1 7 = .ok (.if_icmp .ge 24, 3) := by decide +kernel
theorem zd150_10 : decode zxm150.2.1 10 = .ok (.iload_n 2, 1) := by decide +kernel
theorem zd150_11 : decode zxm150.2.1 11 = .ok (.iload_n 1, 1) := by decide +kernel
theorem zd150_12 : decode zxm150.2.1 12 = .ok (.iload_n 3, 1) := by decide +kernel
theorem zd150_13 : decode zxm150.2.1 13 = .ok (.ishr, 1) := by decide +kernel
theorem zd150_14 : decode zxm150.2.1 14 = .ok (.iconst 1, 1) := by decide +kernel
theorem zd150_15 : decode zxm150.2.1 15 = .ok (.iand, 1) := by decide +kernel
theorem zd150_16 : decode zxm150.2.1 16 = .ok (.aload_n 0, 1) := by decide +kernel
theorem zd150_17 : decode zxm150.2.1 17 = .ok (.getfield 24, 3) := by decide +kernel
theorem zd150_20 : decode zxm150.2.1 20 = .ok (.iload_n 3, 1) := by decide +kernel
theorem zd150_21 : decode zxm150.2.1 21 = .ok (.iaload, 1) := by decide +kernel
theorem zd150_22 : decode zxm150.2.1 22 = .ok (.imul, 1) := by decide +kernel
theorem zd150_23 : decode zxm150.2.1 23 = .ok (.iadd, 1) := by decide +kernel
theorem zd150_24 : decode zxm150.2.1 24 = .ok (.istore_n 2, 1) := by decide +kernel
theorem zd150_25 : decode zxm150.2.1 25 = .ok (.iinc 3 1, 3) := by decide +kernel
theorem zd150_28 : decode zxm150.2.1 28 = .ok (.goto (-24), 3) := by decide +kernel
theorem zd150_31 : decode zxm150.2.1 31 = .ok (.iload_n 2, 1) := by decide +kernel
theorem zd150_32 : decode zxm150.2.1 32 = .ok (.ireturn, 1) := by decide +kernel
theorem zt_Chooser_weightOf {x1 : Int} {g0 : (Int → Int)} {o : Int} (h : zf_Chooser_weightOf x1 g0 = some o) : zv_Fn z_TB z_cl z_KX zy_Chooser_weightOf zxm150 (0, 0) [.inr 0, .inl x1] [] [g0] (some o) [] [g0] := zv_meth (K := (z_KF1, z_KC1, z_KL1, z_KT1, [], [], [], none)) (FT := z_FT) (MT := z_MT) (n := 2) zxp150 (z_ks1 _ (fun _ h => List.mem_cons_of_mem _ h) _ _ _ _ (fun j r h _ => by cases h)) (fun _ _ => zs_KX_p) zyw_Chooser_weightOf (fun va F G h => by obtain ⟨rfl, _⟩ := h; rfl) (fun va F G h => by obtain ⟨rfl, _⟩ := h; rfl) rfl fun good va F G hB hret hvret hP => by
  obtain ⟨rfl, rfl, rfl⟩ := hP
  have l0 : ∀ (n : Nat) (x1 : Int) (x2 : Int) (x3 : Int) (q : Int), zf_Chooser_weightOf_l0 x1 g0 n x2 x3 = some q → (good 31 [.inr 1000, .inr 1000, .inl q, .inr 1000] [] [] [g0]) → good 4 [.inr 0, .inl x1, .inl x2, .inl x3] [] [] [g0] := by
    intro n
    induction n with
    | zero => intro x1 x2 x3 q h; exact absurd (show none = some q from h) (fun h => by cases h)
    | succ n ih =>
      intro x1 x2 x3 q h hK
      replace h : zf_Chooser_weightOf_l0_b x1 g0 (zf_Chooser_weightOf_l0 x1 g0 n) x2 x3 = some q := h
      unfold zf_Chooser_weightOf_l0_b at h
      refine zv_ild hB zd150_4 rfl rfl ?_
      refine zv_con hB zd150_5 rfl ?_
      refine zv_cge hB zd150_7 rfl (fun hc1 => ?_) (fun hc1 => ?_)
      · rw [if_neg (Int.not_lt.mpr hc1)] at h
        have hq := Option.some.inj h
        subst hq
        refine zv_wk hB (L' := [.inr 1000, .inr 1000, .inl x2, .inr 1000]) (F' := []) ⟨fun (h : zv_is (.inr 1000)) => (Nat.lt_irrefl 1000 h).elim, fun (h : zv_is (.inr 1000)) => (Nat.lt_irrefl 1000 h).elim, fun _ => rfl, fun (h : zv_is (.inr 1000)) => (Nat.lt_irrefl 1000 h).elim, trivial⟩ trivial ?_
        exact hK
      · rw [if_pos hc1] at h
        refine zv_ild hB zd150_10 rfl rfl ?_
        refine zv_ild hB zd150_11 rfl rfl ?_
        refine zv_ild hB zd150_12 rfl rfl ?_
        refine zv_shrw hB zd150_13 ?_
        refine zv_con hB zd150_14 rfl ?_
        refine zv_andw hB zd150_15 ?_
        refine zv_ald hB zd150_16 rfl rfl rfl ?_
        refine zv_getr hB zd150_17 rfl ?_
        refine zv_ild hB zd150_20 rfl rfl ?_
        obtain ⟨c2, h⟩ := zi_if h
        refine zv_iald hB zd150_21 rfl rfl (zi_ix_ok c2).1 (zi_ix_ok c2).2 (fun _ _ => ?_)
        refine zv_mulw hB zd150_22 ?_
        refine zv_addw hB zd150_23 ?_
        refine zv_ist hB zd150_24 rfl rfl rfl ?_
        refine zv_iincw hB zd150_25 rfl rfl ?_
        refine zv_goto hB zd150_28 rfl ?_
        exact ih _ _ _ q h hK
  unfold zf_Chooser_weightOf at h
  refine zv_con hB zd150_0 rfl ?_
  refine zv_ist hB zd150_1 rfl rfl rfl ?_
  refine zv_con hB zd150_2 rfl ?_
  refine zv_ist hB zd150_3 rfl rfl rfl ?_
  obtain ⟨q3, hq3, h⟩ := zi_bind h
  refine l0 _ _ _ _ q3 hq3 ?_
  show good 31 [.inr 1000, .inr 1000, .inl q3, .inr 1000] [] [] [g0]
  refine zv_ild hB zd150_31 rfl rfl ?_
  have hw := Option.some.inj h
  subst hw
  exact hret _ _ _ _ _ zd150_32 (by trivial) ⟨rfl, rfl, rfl⟩
end
section
/-! Methods as functions, and that they do what these do. -/
/-! X_sold (II)I -/
-- names: 0 StarTales('arg', 0), 1 Chooser(0, 0, 17), 2 Sky(0, 0, 0), 3 Law(0, 0, 7), 4 (0, 13)(3, 4, 12), 5 (0, 24)(1, 11, 3), 6 (0, 24)(1, 11, 4), 7 (0, 24)(2, 1, 3), 8 (0, 24)(2, 1, 2), 9 (0, 24)(2, 1, 1), 10 (0, 14)(3, 4, 3), 11 (0, 14)(3, 4, 5), 12 (0, 14)(3, 4, 6), 13 (0, 200)(3, 4, 0), 14 (0, 40)(3, 4, 13), 15 (0, 200)(3, 4, 1), 16 (0, 14)(3, 4, 4), 17 (0, 1000)(1, 11, 5), 18 (0, 1000)(1, 11, 6)
-- fields: f0 = 0.ruling_, f1 = 2.hour_, f2 = 2.night_, f3 = 2.told_, f4 = 3.clauses_, f5 = 3.answer_; arrays: g0 = 4, g1 = 5, g2 = 6, g3 = 7, g4 = 8, g5 = 9, g6 = 10, g7 = 11, g8 = 12, g9 = 13, g10 = 14, g11 = 15, g12 = 16, g13 = 17, g14 = 18; out: [('ret', None), ('f', 5), ('g', 0), ('g', 1), ('g', 2), ('g', 10), ('g', 13), ('g', 14)]
abbrev zy_X_sold : zNL := (19, [(0, 0), (1, 11), (2, 1), (3, 4)], [(0, 0, 7, 0), (2, 1, 6, 1), (2, 1, 7, 2), (2, 1, 0, 3), (3, 4, 7, 4), (3, 4, 14, 5)], [(0, 0, 17, 1), (0, 0, 0, 2), (3, 4, 12, 4), (1, 11, 3, 5), (1, 11, 4, 6), (2, 1, 3, 7), (2, 1, 2, 8), (2, 1, 1, 9), (3, 4, 3, 10), (3, 4, 5, 11), (3, 4, 6, 12), (3, 4, 0, 13), (3, 4, 13, 14), (3, 4, 1, 15), (3, 4, 4, 16), (1, 11, 5, 17), (1, 11, 6, 18)], [(4, 0, 13, 0), (5, 0, 24, 1), (6, 0, 24, 2), (7, 0, 24, 3), (8, 0, 24, 4), (9, 0, 24, 5), (10, 0, 14, 6), (11, 0, 14, 7), (12, 0, 14, 8), (13, 0, 200, 9), (14, 0, 40, 10), (15, 0, 200, 11), (16, 0, 14, 12), (17, 0, 1000, 13), (18, 0, 1000, 14)])
theorem zyw_X_sold : zv_wf zy_X_sold = true := by decide +kernel
theorem zye_X_sold : zv_ek2 zy_X_sold = true := by decide +kernel
def zf_X_sold (x1 : Int) (x2 : Int) (f1 : Int) (f2 : Int) (f3 : Int) (f4 : Int) (f5 : Int) (g0 : (Int → Int)) (g1 : (Int → Int)) (g2 : (Int → Int)) (g3 : (Int → Int)) (g4 : (Int → Int)) (g5 : (Int → Int)) (g6 : (Int → Int)) (g7 : (Int → Int)) (g8 : (Int → Int)) (g9 : (Int → Int)) (g10 : (Int → Int)) (g11 : (Int → Int)) (g12 : (Int → Int)) (g13 : (Int → Int)) (g14 : (Int → Int)) : Option (Int × Int × (Int → Int) × (Int → Int) × (Int → Int) × (Int → Int) × (Int → Int) × (Int → Int)) := (zf_X_isWithin x1 0 999).bind fun r1 => (if r1 = 0 then (some ((-1), f5, g0, g1, g2, g10, g13, g14)) else ((zf_X_isWithin x2 0 2).bind fun r3 => (if r3 = 0 then (some ((-1), f5, g0, g1, g2, g10, g13, g14)) else ((zf_Chooser_weighStars f1 f2 f3 f4 f5 g0 g1 g2 g3 g4 g5 g6 g7 g8 g9 g10 g11 g12).bind fun r5 => ((zf_Chooser_bestSold f3 x1 g13 g14 r5.2.2.1 r5.2.2.2.1).bind fun r6 => (if x2 = 0 then ((zf_Chooser_worthOf r6.1 r5.2.2.1).bind fun r8 => (some (r8, r5.1, r5.2.1, r5.2.2.1, r5.2.2.2.1, r5.2.2.2.2, r6.2.1, r6.2.2))) else (if x2 = 1 then (some (r6.1, r5.1, r5.2.1, r5.2.2.1, r5.2.2.2.1, r5.2.2.2.2, r6.2.1, r6.2.2)) else ((zf_Chooser_weightOf r6.1 r5.2.2.2.1).bind fun r10 => (some (r10, r5.1, r5.2.1, r5.2.2.1, r5.2.2.2.1, r5.2.2.2.2, r6.2.1, r6.2.2))))))))))
theorem zd144_0 : decode zxm144.2.1 0 = .ok (.iload_n 1, 1) := by decide +kernel
theorem zd144_1 : decode zxm144.2.1 1 = .ok (.iconst 0, 1) := by decide +kernel
theorem zd144_2 : decode zxm144.2.1 2 = .ok (.sipush 999, 3) := by decide +kernel
theorem zd144_5 : decode zxm144.2.1 5 = .ok (.invokestatic 126, 3) := by decide +kernel
theorem zd144_8 : decode zxm144.2.1 8 = .ok (.ifCond .eq 12, 3) := by decide +kernel
theorem zd144_11 : decode zxm144.2.1 11 = .ok (.iload_n 2, 1) := by decide +kernel
theorem zd144_12 : decode zxm144.2.1 12 = .ok (.iconst 0, 1) := by decide +kernel
theorem zd144_13 : decode zxm144.2.1 13 = .ok (.iconst 2, 1) := by decide +kernel
theorem zd144_14 : decode zxm144.2.1 14 = .ok (.invokestatic 126, 3) := by decide +kernel
theorem zd144_17 : decode zxm144.2.1 17 = .ok (.ifCond .ne 5, 3) := by decide +kernel
theorem zd144_20 : decode zxm144.2.1 20 = .ok (.iconst (-1), 1) := by decide +kernel
theorem zd144_21 : decode zxm144.2.1 21 = .ok (.ireturn, 1) := by decide +kernel
theorem zd144_22 : decode zxm144.2.1 22 = .ok (.aload_n 0, 1) := by decide +kernel
theorem zd144_23 : decode zxm144.2.1 23 = .ok (.getfield 119, 3) := by decide +kernel
theorem zd144_26 : decode zxm144.2.1 26 = .ok (.aload_n 0, 1) := by decide +kernel
theorem zd144_27 : decode zxm144.2.1 27 = .ok (.getfield 10, 3) := by decide +kernel
theorem zd144_30 : decode zxm144.2.1 30 = .ok (.aload_n 0, 1) := by decide +kernel
theorem zd144_31 : decode zxm144.2.1 31 = .ok (.getfield 46, 3) := by decide +kernel
theorem zd144_34 : decode zxm144.2.1 34 = .ok (.invokevirtual 311, 3) := by decide +kernel
theorem zd144_37 : decode zxm144.2.1 37 = .ok (.aload_n 0, 1) := by decide +kernel
theorem zd144_38 : decode zxm144.2.1 38 = .ok (.getfield 119, 3) := by decide +kernel
theorem zd144_41 : decode zxm144.2.1 41 = .ok (.aload_n 0, 1) := by decide +kernel
theorem zd144_42 : decode zxm144.2.1 42 = .ok (.getfield 10, 3) := by decide +kernel
theorem zd144_45 : decode zxm144.2.1 45 = .ok (.getfield 134, 3) := by decide +kernel
theorem zd144_48 : decode zxm144.2.1 48 = .ok (.iload_n 1, 1) := by decide +kernel
theorem zd144_49 : decode zxm144.2.1 49 = .ok (.invokevirtual 314, 3) := by decide +kernel
theorem zd144_52 : decode zxm144.2.1 52 = .ok (.istore_n 3, 1) := by decide +kernel
theorem zd144_53 : decode zxm144.2.1 53 = .ok (.iload_n 2, 1) := by decide +kernel
theorem zd144_54 : decode zxm144.2.1 54 = .ok (.lookupswitch 37 #[(0, 26), (1, 35)], 26) := by decide +kernel
theorem zd144_80 : decode zxm144.2.1 80 = .ok (.aload_n 0, 1) := by decide +kernel
theorem zd144_81 : decode zxm144.2.1 81 = .ok (.getfield 119, 3) := by decide +kernel
theorem zd144_84 : decode zxm144.2.1 84 = .ok (.iload_n 3, 1) := by decide +kernel
theorem zd144_85 : decode zxm144.2.1 85 = .ok (.invokevirtual 317, 3) := by decide +kernel
theorem zd144_88 : decode zxm144.2.1 88 = .ok (.ireturn, 1) := by decide +kernel
theorem zd144_89 : decode zxm144.2.1 89 = .ok (.iload_n 3, 1) := by decide +kernel
theorem zd144_90 : decode zxm144.2.1 90 = .ok (.ireturn, 1) := by decide +kernel
theorem zd144_91 : decode zxm144.2.1 91 = .ok (.aload_n 0, 1) := by decide +kernel
theorem zd144_92 : decode zxm144.2.1 92 = .ok (.getfield 119, 3) := by decide +kernel
theorem zd144_95 : decode zxm144.2.1 95 = .ok (.iload_n 3, 1) := by decide +kernel
theorem zd144_96 : decode zxm144.2.1 96 = .ok (.invokevirtual 320, 3) := by decide +kernel
theorem zd144_99 : decode zxm144.2.1 99 = .ok (.ireturn, 1) := by decide +kernel
theorem zt_X_sold {x1 : Int} {x2 : Int} {f1 : Int} {f2 : Int} {f3 : Int} {f4 : Int} {f5 : Int} {g0 : (Int → Int)} {g1 : (Int → Int)} {g2 : (Int → Int)} {g3 : (Int → Int)} {g4 : (Int → Int)} {g5 : (Int → Int)} {g6 : (Int → Int)} {g7 : (Int → Int)} {g8 : (Int → Int)} {g9 : (Int → Int)} {g10 : (Int → Int)} {g11 : (Int → Int)} {g12 : (Int → Int)} {g13 : (Int → Int)} {g14 : (Int → Int)} {o : Int × Int × (Int → Int) × (Int → Int) × (Int → Int) × (Int → Int) × (Int → Int) × (Int → Int)} (h : zf_X_sold x1 x2 f1 f2 f3 f4 f5 g0 g1 g2 g3 g4 g5 g6 g7 g8 g9 g10 g11 g12 g13 g14 = some o) : zv_Fn z_TB z_cl z_KX zy_X_sold zxm144 (4, 240) [.inr 0, .inl x1, .inl x2] [.inr 3, .inl f1, .inl f2, .inl f3, .inl f4, .inl f5] [g0, g1, g2, g3, g4, g5, g6, g7, g8, g9, g10, g11, g12, g13, g14] (some o.1) [.inr 3, .inl f1, .inl f2, .inl f3, .inl f4, .inl o.2.1] [o.2.2.1, o.2.2.2.1, o.2.2.2.2.1, g3, g4, g5, g6, g7, g8, g9, o.2.2.2.2.2.1, g11, g12, o.2.2.2.2.2.2.1, o.2.2.2.2.2.2.2] := zv_meth (K := (z_KF0, z_KC0, z_KL0, z_KT0, [], [], [], none)) (FT := z_FT) (MT := z_MT) (n := 3) zxp144 (z_ks0 _ (fun _ h => List.mem_cons_of_mem _ h) _ _ _ _ (fun j r h _ => by cases h)) (fun _ _ => zs_KX_p) zyw_X_sold (fun va F G h => by obtain ⟨rfl, _⟩ := h; rfl) (fun va F G h => by obtain ⟨rfl, _⟩ := h; rfl) rfl fun good va F G hB hret hvret hP => by
  obtain ⟨rfl, rfl, rfl⟩ := hP
  unfold zf_X_sold at h
  refine zv_ild hB zd144_0 rfl rfl ?_
  refine zv_con hB zd144_1 rfl ?_
  refine zv_con hB zd144_2 rfl ?_
  obtain ⟨r1, hr1, h⟩ := zi_bind h
  refine zv_cs hB (zv_emq (va2 := [.inl x1, .inl 0, .inl 999]) (F := [.inr 3, .inl f1, .inl f2, .inl f3, .inl f4, .inl f5]) (F' := [.inr 3, .inl f1, .inl f2, .inl f3, .inl f4, .inl f5]) (G := [g0, g1, g2, g3, g4, g5, g6, g7, g8, g9, g10, g11, g12, g13, g14]) (G' := [g0, g1, g2, g3, g4, g5, g6, g7, g8, g9, g10, g11, g12, g13, g14]) (ρ := []) (φ := []) (ψ := []) [none, none, none, none, none, none] [none, none, none, none, none, none, none, none, none, none, none, none, none, none, none] zyw_X_isWithin zyw_X_sold zye_X_sold (by decide +kernel) (zt_X_isWithin hr1) trivial trivial rfl rfl rfl rfl rfl rfl rfl) zd144_5 zxt15 rfl (by decide) (by decide) rfl ?_
  refine zv_zeq hB zd144_8 rfl (fun hc2 => ?_) (fun hc2 => ?_)
  · rw [if_pos hc2] at h
    refine zv_con hB zd144_20 rfl ?_
    have hw := Option.some.inj h
    subst hw
    exact hret _ _ _ _ _ zd144_21 (by trivial) ⟨rfl, rfl, rfl⟩
  · rw [if_neg hc2] at h
    refine zv_ild hB zd144_11 rfl rfl ?_
    refine zv_con hB zd144_12 rfl ?_
    refine zv_con hB zd144_13 rfl ?_
    obtain ⟨r3, hr3, h⟩ := zi_bind h
    refine zv_cs hB (zv_emq (va2 := [.inl x2, .inl 0, .inl 2]) (F := [.inr 3, .inl f1, .inl f2, .inl f3, .inl f4, .inl f5]) (F' := [.inr 3, .inl f1, .inl f2, .inl f3, .inl f4, .inl f5]) (G := [g0, g1, g2, g3, g4, g5, g6, g7, g8, g9, g10, g11, g12, g13, g14]) (G' := [g0, g1, g2, g3, g4, g5, g6, g7, g8, g9, g10, g11, g12, g13, g14]) (ρ := []) (φ := []) (ψ := []) [none, none, none, none, none, none] [none, none, none, none, none, none, none, none, none, none, none, none, none, none, none] zyw_X_isWithin zyw_X_sold zye_X_sold (by decide +kernel) (zt_X_isWithin hr3) trivial trivial rfl rfl rfl rfl rfl rfl rfl) zd144_14 zxt15 rfl (by decide) (by decide) rfl ?_
    refine zv_zne hB zd144_17 rfl (fun hc4 => ?_) (fun hc4 => ?_)
    · rw [if_neg hc4] at h
      refine zv_ald hB zd144_22 rfl rfl rfl ?_
      refine zv_getr hB zd144_23 rfl ?_
      refine zv_ald hB zd144_26 rfl rfl rfl ?_
      refine zv_getr hB zd144_27 rfl ?_
      refine zv_ald hB zd144_30 rfl rfl rfl ?_
      refine zv_getq hB zd144_31 rfl rfl rfl ?_
      obtain ⟨r5, hr5, h⟩ := zi_bind h
      refine zv_cv hB (zv_emq (va2 := [.inr 1, .inr 2, .inr 3]) (F := [.inr 3, .inl f1, .inl f2, .inl f3, .inl f4, .inl f5]) (F' := [.inr 3, .inl f1, .inl f2, .inl f3, .inl f4, .inl r5.1]) (G := [g0, g1, g2, g3, g4, g5, g6, g7, g8, g9, g10, g11, g12, g13, g14]) (G' := [r5.2.1, r5.2.2.1, r5.2.2.2.1, g3, g4, g5, g6, g7, g8, g9, r5.2.2.2.2, g11, g12, g13, g14]) (ρ := [1, 2, 3, 4, 5, 6, 7, 8, 9, 10, 11, 12, 13, 14, 15, 16]) (φ := [1, 2, 3, 4, 5]) (ψ := [0, 1, 2, 3, 4, 5, 6, 7, 8, 9, 10, 11, 12]) [none, some 0, some 1, some 2, some 3, some 4] [some 0, some 1, some 2, some 3, some 4, some 5, some 6, some 7, some 8, some 9, some 10, some 11, some 12, none, none] zyw_Chooser_weighStars zyw_X_sold zye_X_sold (by decide +kernel) (zt_Chooser_weighStars hr5) ⟨⟨_, rfl, fun _ => rfl⟩, ⟨_, rfl, fun _ => rfl⟩, ⟨_, rfl, fun _ => rfl⟩, ⟨_, rfl, fun _ => rfl⟩, ⟨_, rfl, fun _ => rfl⟩, trivial⟩ ⟨rfl, rfl, rfl, rfl, rfl, rfl, rfl, rfl, rfl, rfl, rfl, rfl, rfl, trivial⟩ rfl rfl rfl rfl rfl rfl rfl) zd144_34 zxt145 rfl (by decide) (by decide) rfl ?_
      refine zv_ald hB zd144_37 rfl rfl rfl ?_
      refine zv_getr hB zd144_38 rfl ?_
      refine zv_ald hB zd144_41 rfl rfl rfl ?_
      refine zv_getr hB zd144_42 rfl ?_
      refine zv_getf hB zd144_45 rfl rfl (fun _ _ => ?_)
      refine zv_ild hB zd144_48 rfl rfl ?_
      obtain ⟨r6, hr6, h⟩ := zi_bind h
      refine zv_cv hB (zv_emq (va2 := [.inr 1, .inl f3, .inl x1]) (F := [.inr 3, .inl f1, .inl f2, .inl f3, .inl f4, .inl r5.1]) (F' := [.inr 3, .inl f1, .inl f2, .inl f3, .inl f4, .inl r5.1]) (G := [r5.2.1, r5.2.2.1, r5.2.2.2.1, g3, g4, g5, g6, g7, g8, g9, r5.2.2.2.2, g11, g12, g13, g14]) (G' := [r5.2.1, r5.2.2.1, r5.2.2.2.1, g3, g4, g5, g6, g7, g8, g9, r5.2.2.2.2, g11, g12, r6.2.1, r6.2.2]) (ρ := [1, 17, 18, 5, 6]) (φ := []) (ψ := [13, 14, 1, 2]) [none, none, none, none, none, none] [none, some 2, some 3, none, none, none, none, none, none, none, none, none, none, some 0, some 1] zyw_Chooser_bestSold zyw_X_sold zye_X_sold (by decide +kernel) (zt_Chooser_bestSold hr6) trivial ⟨rfl, rfl, rfl, rfl, trivial⟩ rfl rfl rfl rfl rfl rfl rfl) zd144_49 zxt147 rfl (by decide) (by decide) rfl ?_
      refine zv_ist hB zd144_52 rfl rfl rfl ?_
      refine zv_ild hB zd144_53 rfl rfl ?_
      refine zv_lsw hB zd144_54 rfl ?_
      refine ⟨fun hc7 => ⟨_, rfl, ?_⟩, fun hc7 => ?_⟩
      · replace hc7 : x2 = 0 := hc7
        rw [if_pos hc7] at h
        refine zv_ald hB zd144_80 rfl rfl rfl ?_
        refine zv_getr hB zd144_81 rfl ?_
        refine zv_ild hB zd144_84 rfl rfl ?_
        obtain ⟨r8, hr8, h⟩ := zi_bind h
        refine zv_cv hB (zv_emq (va2 := [.inr 1, .inl r6.1]) (F := [.inr 3, .inl f1, .inl f2, .inl f3, .inl f4, .inl r5.1]) (F' := [.inr 3, .inl f1, .inl f2, .inl f3, .inl f4, .inl r5.1]) (G := [r5.2.1, r5.2.2.1, r5.2.2.2.1, g3, g4, g5, g6, g7, g8, g9, r5.2.2.2.2, g11, g12, r6.2.1, r6.2.2]) (G' := [r5.2.1, r5.2.2.1, r5.2.2.2.1, g3, g4, g5, g6, g7, g8, g9, r5.2.2.2.2, g11, g12, r6.2.1, r6.2.2]) (ρ := [1, 5]) (φ := []) (ψ := [1]) [none, none, none, none, none, none] [none, some 0, none, none, none, none, none, none, none, none, none, none, none, none, none] zyw_Chooser_worthOf zyw_X_sold zye_X_sold (by decide +kernel) (zt_Chooser_worthOf hr8) trivial ⟨rfl, trivial⟩ rfl rfl rfl rfl rfl rfl rfl) zd144_85 zxt149 rfl (by decide) (by decide) rfl ?_
        have hw := Option.some.inj h
        subst hw
        exact hret _ _ _ _ _ zd144_88 (by trivial) ⟨rfl, rfl, rfl⟩
      replace hc7 : x2 ≠ 0 := hc7
      rw [if_neg hc7] at h
      refine ⟨fun hc9 => ⟨_, rfl, ?_⟩, fun hc9 => ?_⟩
      · replace hc9 : x2 = 1 := hc9
        rw [if_pos hc9] at h
        refine zv_ild hB zd144_89 rfl rfl ?_
        have hw := Option.some.inj h
        subst hw
        exact hret _ _ _ _ _ zd144_90 (by trivial) ⟨rfl, rfl, rfl⟩
      replace hc9 : x2 ≠ 1 := hc9
      rw [if_neg hc9] at h
      refine ⟨_, rfl, ?_⟩
      refine zv_ald hB zd144_91 rfl rfl rfl ?_
      refine zv_getr hB zd144_92 rfl ?_
      refine zv_ild hB zd144_95 rfl rfl ?_
      obtain ⟨r10, hr10, h⟩ := zi_bind h
      refine zv_cv hB (zv_emq (va2 := [.inr 1, .inl r6.1]) (F := [.inr 3, .inl f1, .inl f2, .inl f3, .inl f4, .inl r5.1]) (F' := [.inr 3, .inl f1, .inl f2, .inl f3, .inl f4, .inl r5.1]) (G := [r5.2.1, r5.2.2.1, r5.2.2.2.1, g3, g4, g5, g6, g7, g8, g9, r5.2.2.2.2, g11, g12, r6.2.1, r6.2.2]) (G' := [r5.2.1, r5.2.2.1, r5.2.2.2.1, g3, g4, g5, g6, g7, g8, g9, r5.2.2.2.2, g11, g12, r6.2.1, r6.2.2]) (ρ := [1, 6]) (φ := []) (ψ := [2]) [none, none, none, none, none, none] [none, none, some 0, none, none, none, none, none, none, none, none, none, none, none, none] zyw_Chooser_weightOf zyw_X_sold zye_X_sold (by decide +kernel) (zt_Chooser_weightOf hr10) trivial ⟨rfl, trivial⟩ rfl rfl rfl rfl rfl rfl rfl) zd144_96 zxt150 rfl (by decide) (by decide) rfl ?_
      have hw := Option.some.inj h
      subst hw
      exact hret _ _ _ _ _ zd144_99 (by trivial) ⟨rfl, rfl, rfl⟩
    · rw [if_pos hc4] at h
      refine zv_con hB zd144_20 rfl ?_
      have hw := Option.some.inj h
      subst hw
      exact hret _ _ _ _ _ zd144_21 (by trivial) ⟨rfl, rfl, rfl⟩
/-! Sea_goFrom (II)I -/
-- names: 0 Sea('arg', 0), 1 (0, 12)(0, 2, 0)
-- fields: ; arrays: g0 = 1; out: [('ret', None)]
abbrev zy_Sea_goFrom : zNL := (2, [(0, 2)], [], [(0, 2, 0, 1)], [(1, 0, 12, 0)])
theorem zyw_Sea_goFrom : zv_wf zy_Sea_goFrom = true := by decide +kernel
theorem zye_Sea_goFrom : zv_ek2 zy_Sea_goFrom = true := by decide +kernel
def zf_Sea_goFrom (x1 : Int) (x2 : Int) (g0 : (Int → Int)) : Option (Int) := (zf_X_columnOf x1).bind fun r1 => ((zf_X_rowOf x1).bind fun r2 => (if x2 = 1 then ((zf_X_isPlace (zi_rem (zi_w (r1 + 1)) 24) r2).bind fun r4 => (if r4 = 0 then (some (-1)) else ((zf_X_placeOf (zi_rem (zi_w (r1 + 1)) 24) r2).bind fun r6 => ((zf_Sea_isLand r6 g0).bind fun r7 => (if r7 = 0 then ((zf_X_placeOf (zi_rem (zi_w (r1 + 1)) 24) r2).bind fun r9 => (some r9)) else (some (-1))))))) else (if x2 = 2 then ((zf_X_isPlace (zi_rem (zi_w ((zi_w (r1 + 24)) - 1)) 24) r2).bind fun r11 => (if r11 = 0 then (some (-1)) else ((zf_X_placeOf (zi_rem (zi_w ((zi_w (r1 + 24)) - 1)) 24) r2).bind fun r13 => ((zf_Sea_isLand r13 g0).bind fun r14 => (if r14 = 0 then ((zf_X_placeOf (zi_rem (zi_w ((zi_w (r1 + 24)) - 1)) 24) r2).bind fun r16 => (some r16)) else (some (-1))))))) else (if x2 = 3 then ((zf_X_isPlace r1 (zi_w (r2 + 1))).bind fun r18 => (if r18 = 0 then (some (-1)) else ((zf_X_placeOf r1 (zi_w (r2 + 1))).bind fun r20 => ((zf_Sea_isLand r20 g0).bind fun r21 => (if r21 = 0 then ((zf_X_placeOf r1 (zi_w (r2 + 1))).bind fun r23 => (some r23)) else (some (-1))))))) else (if x2 = 4 then ((zf_X_isPlace r1 (zi_w (r2 + (-1)))).bind fun r25 => (if r25 = 0 then (some (-1)) else ((zf_X_placeOf r1 (zi_w (r2 + (-1)))).bind fun r27 => ((zf_Sea_isLand r27 g0).bind fun r28 => (if r28 = 0 then ((zf_X_placeOf r1 (zi_w (r2 + (-1)))).bind fun r30 => (some r30)) else (some (-1))))))) else ((zf_X_isPlace r1 r2).bind fun r31 => (if r31 = 0 then (some (-1)) else ((zf_X_placeOf r1 r2).bind fun r33 => ((zf_Sea_isLand r33 g0).bind fun r34 => (if r34 = 0 then ((zf_X_placeOf r1 r2).bind fun r36 => (some r36)) else (some (-1))))))))))))
theorem zd154_0 : decode zxm154.2.1 0 = .ok (.iload_n 1, 1) := by decide +kernel
theorem zd154_1 : decode zxm154.2.1 1 = .ok (.invokestatic 26, 3) := by decide +kernel
theorem zd154_4 : decode zxm154.2.1 4 = .ok (.istore_n 3, 1) := by decide +kernel
theorem zd154_5 : decode zxm154.2.1 5 = .ok (.iload_n 1, 1) := by decide +kernel
theorem zd154_6 : decode zxm154.2.1 6 = .ok (.invokestatic 22, 3) := by decide +kernel
theorem zd154_9 : decode zxm154.2.1 9 = .ok (.istore 4, 2) := by decide +kernel
theorem zd154_11 : decode zxm154.2.1 11 = .ok (.iload_n 2, 1) := by decide +kernel
theorem zd154_12 : decode zxm154.2.1 12 = .ok (.tableswitch 67 1 4 #[32, 42, 55, 61], 32) := by decide +kernel
theorem zd154_44 : decode zxm154.2.1 44 = .ok (.iload_n 3, 1) := by decide +kernel
theorem zd154_45 : decode zxm154.2.1 45 = .ok (.iconst 1, 1) := by decide +kernel
theorem zd154_46 : decode zxm154.2.1 46 = .ok (.iadd, 1) := by decide +kernel
theorem zd154_47 : decode zxm154.2.1 47 = .ok (.bipush 24, 2) := by decide +kernel
theorem zd154_49 : decode zxm154.2.1 49 = .ok (.irem, 1) := by decide +kernel
theorem zd154_50 : decode zxm154.2.1 50 = .ok (.istore_n 3, 1) := by decide +kernel
theorem zd154_51 : decode zxm154.2.1 51 = .ok (.goto 28, 3) := by decide +kernel
theorem zd154_54 : decode zxm154.2.1 54 = .ok (.iload_n 3, 1) := by decide +kernel
theorem zd154_55 : decode zxm154.2.1 55 = .ok (.bipush 24, 2) := by decide +kernel
theorem zd154_57 : decode zxm154.2.1 57 = .ok (.iadd, 1) := by decide +kernel
theorem zd154_58 : decode zxm154.2.1 58 = .ok (.iconst 1, 1) := by decide +kernel
theorem zd154_59 : decode zxm154.2.1 59 = .ok (.isub, 1) := by decide +kernel
theorem zd154_60 : decode zxm154.2.1 60 = .ok (.bipush 24, 2) := by decide +kernel
theorem zd154_62 : decode zxm154.2.1 62 = .ok (.irem, 1) := by decide +kernel
theorem zd154_63 : decode zxm154.2.1 63 = .ok (.istore_n 3, 1) := by decide +kernel
theorem zd154_64 : decode zxm154.2.1 64 = .ok (.goto 15, 3) := by decide +kernel
theorem zd154_67 : decode zxm154.2.1 67 = .ok (.iinc 4 1, 3) := by decide +kernel
theorem zd154_70 : decode zxm154.2.1 70 = .ok (.goto 9, 3) := by decide +kernel
theorem zd154_73 : decode zxm154.2.1 73 = .ok (.iinc 4 (-1), 3) := by decide +kernel
theorem zd154_76 : decode zxm154.2.1 76 = .ok (.goto 3, 3) := by decide +kernel
theorem zd154_79 : decode zxm154.2.1 79 = .ok (.iload_n 3, 1) := by decide +kernel
theorem zd154_80 : decode zxm154.2.1 80 = .ok (.iload 4, 2) := by decide +kernel
theorem zd154_82 : decode zxm154.2.1 82 = .ok (.invokestatic 38, 3) := by decide +kernel
theorem zd154_85 : decode zxm154.2.1 85 = .ok (.ifCond .eq 16, 3) := by decide +kernel
theorem zd154_88 : decode zxm154.2.1 88 = .ok (.aload_n 0, 1) := by decide +kernel
theorem zd154_89 : decode zxm154.2.1 89 = .ok (.iload_n 3, 1) := by decide +kernel
theorem zd154_90 : decode zxm154.2.1 90 = .ok (.iload 4, 2) := by decide +kernel
theorem zd154_92 : decode zxm154.2.1 92 = .ok (.invokestatic 42, 3) := by decide +kernel
theorem zd154_95 : decode zxm154.2.1 95 = .ok (.invokevirtual 46, 3) := by decide +kernel
theorem zd154_98 : decode zxm154.2.1 98 = .ok (.ifCond .eq 7, 3) := by decide +kernel
theorem zd154_101 : decode zxm154.2.1 101 = .ok (.iconst (-1), 1) := by decide +kernel
theorem zd154_102 : decode zxm154.2.1 102 = .ok (.goto 9, 3) := by decide +kernel
theorem zd154_105 : decode zxm154.2.1 105 = .ok (.iload_n 3, 1) := by decide +kernel
theorem zd154_106 : decode zxm154.2.1 106 = .ok (.iload 4, 2) := by decide +kernel
theorem zd154_108 : decode zxm154.2.1 108 = .ok (.invokestatic 42, 3) := by decide +kernel
theorem zd154_111 : decode zxm154.2.1 111 = .ok (.ireturn, 1) := by decide +kernel
theorem zt_Sea_goFrom {x1 : Int} {x2 : Int} {g0 : (Int → Int)} {o : Int} (h : zf_Sea_goFrom x1 x2 g0 = some o) : zv_Fn z_TB z_cl z_KX zy_Sea_goFrom zxm154 (2, 120) [.inr 0, .inl x1, .inl x2] [] [g0] (some o) [] [g0] := zv_meth (K := (z_KF7, z_KC7, z_KL7, z_KT7, [], [], [], none)) (FT := z_FT) (MT := z_MT) (n := 3) zxp154 (z_ks7 _ (fun _ h => List.mem_cons_of_mem _ h) _ _ _ _ (fun j r h _ => by cases h)) (fun _ _ => zs_KX_p) zyw_Sea_goFrom (fun va F G h => by obtain ⟨rfl, _⟩ := h; rfl) (fun va F G h => by obtain ⟨rfl, _⟩ := h; rfl) rfl fun good va F G hB hret hvret hP => by
  obtain ⟨rfl, rfl, rfl⟩ := hP
  unfold zf_Sea_goFrom at h
  refine zv_ild hB zd154_0 rfl rfl ?_
  obtain ⟨r1, hr1, h⟩ := zi_bind h
  refine zv_cs hB (zv_emq (va2 := [.inl x1]) (F := []) (F' := []) (G := [g0]) (G' := [g0]) (ρ := []) (φ := []) (ψ := []) [] [none] zyw_X_columnOf zyw_Sea_goFrom zye_Sea_goFrom (by decide +kernel) (zt_X_columnOf hr1) trivial trivial rfl rfl rfl rfl rfl rfl rfl) zd154_1 zxt31 rfl (by decide) (by decide) rfl ?_
  refine zv_ist hB zd154_4 rfl rfl rfl ?_
  refine zv_ild hB zd154_5 rfl rfl ?_
  obtain ⟨r2, hr2, h⟩ := zi_bind h
  refine zv_cs hB (zv_emq (va2 := [.inl x1]) (F := []) (F' := []) (G := [g0]) (G' := [g0]) (ρ := []) (φ := []) (ψ := []) [] [none] zyw_X_rowOf zyw_Sea_goFrom zye_Sea_goFrom (by decide +kernel) (zt_X_rowOf hr2) trivial trivial rfl rfl rfl rfl rfl rfl rfl) zd154_6 zxt30 rfl (by decide) (by decide) rfl ?_
  refine zv_ist hB zd154_9 rfl rfl rfl ?_
  refine zv_ild hB zd154_11 rfl rfl ?_
  refine zv_tsw hB zd154_12 rfl ?_
  refine ⟨fun hc3 => ⟨_, rfl, ?_⟩, fun hc3 => ?_⟩
  · replace hc3 : x2 = 1 := hc3
    rw [if_pos hc3] at h
    refine zv_ild hB zd154_44 rfl rfl ?_
    refine zv_con hB zd154_45 rfl ?_
    refine zv_addw hB zd154_46 ?_
    refine zv_con hB zd154_47 rfl ?_
    refine zv_remw hB zd154_49 (by decide) ?_
    refine zv_ist hB zd154_50 rfl rfl rfl ?_
    refine zv_goto hB zd154_51 rfl ?_
    refine zv_ild hB zd154_79 rfl rfl ?_
    refine zv_ild hB zd154_80 rfl rfl ?_
    obtain ⟨r4, hr4, h⟩ := zi_bind h
    refine zv_cs hB (zv_emq (va2 := [.inl (zi_rem (zi_w (r1 + 1)) 24), .inl r2]) (F := []) (F' := []) (G := [g0]) (G' := [g0]) (ρ := []) (φ := []) (ψ := []) [] [none] zyw_X_isPlace zyw_Sea_goFrom zye_Sea_goFrom (by decide +kernel) (zt_X_isPlace hr4) trivial trivial rfl rfl rfl rfl rfl rfl rfl) zd154_82 zxt16 rfl (by decide) (by decide) rfl ?_
    refine zv_zeq hB zd154_85 rfl (fun hc5 => ?_) (fun hc5 => ?_)
    · rw [if_pos hc5] at h
      refine zv_con hB zd154_101 rfl ?_
      refine zv_goto hB zd154_102 rfl ?_
      have hw := Option.some.inj h
      subst hw
      exact hret _ _ _ _ _ zd154_111 (by trivial) ⟨rfl, rfl, rfl⟩
    · rw [if_neg hc5] at h
      refine zv_ald hB zd154_88 rfl rfl rfl ?_
      refine zv_ild hB zd154_89 rfl rfl ?_
      refine zv_ild hB zd154_90 rfl rfl ?_
      obtain ⟨r6, hr6, h⟩ := zi_bind h
      refine zv_cs hB (zv_emq (va2 := [.inl (zi_rem (zi_w (r1 + 1)) 24), .inl r2]) (F := []) (F' := []) (G := [g0]) (G' := [g0]) (ρ := []) (φ := []) (ψ := []) [] [none] zyw_X_placeOf zyw_Sea_goFrom zye_Sea_goFrom (by decide +kernel) (zt_X_placeOf hr6) trivial trivial rfl rfl rfl rfl rfl rfl rfl) zd154_92 zxt24 rfl (by decide) (by decide) rfl ?_
      obtain ⟨r7, hr7, h⟩ := zi_bind h
      refine zv_cv hB (zv_emq (va2 := [.inr 0, .inl r6]) (F := []) (F' := []) (G := [g0]) (G' := [g0]) (ρ := [0, 1]) (φ := []) (ψ := [0]) [] [some 0] zyw_Sea_isLand zyw_Sea_goFrom zye_Sea_goFrom (by decide +kernel) (zt_Sea_isLand hr7) trivial ⟨rfl, trivial⟩ rfl rfl rfl rfl rfl rfl rfl) zd154_95 zxt29 rfl (by decide) (by decide) rfl ?_
      refine zv_zeq hB zd154_98 rfl (fun hc8 => ?_) (fun hc8 => ?_)
      · rw [if_pos hc8] at h
        refine zv_ild hB zd154_105 rfl rfl ?_
        refine zv_ild hB zd154_106 rfl rfl ?_
        obtain ⟨r9, hr9, h⟩ := zi_bind h
        refine zv_cs hB (zv_emq (va2 := [.inl (zi_rem (zi_w (r1 + 1)) 24), .inl r2]) (F := []) (F' := []) (G := [g0]) (G' := [g0]) (ρ := []) (φ := []) (ψ := []) [] [none] zyw_X_placeOf zyw_Sea_goFrom zye_Sea_goFrom (by decide +kernel) (zt_X_placeOf hr9) trivial trivial rfl rfl rfl rfl rfl rfl rfl) zd154_108 zxt24 rfl (by decide) (by decide) rfl ?_
        have hw := Option.some.inj h
        subst hw
        exact hret _ _ _ _ _ zd154_111 (by trivial) ⟨rfl, rfl, rfl⟩
      · rw [if_neg hc8] at h
        refine zv_con hB zd154_101 rfl ?_
        refine zv_goto hB zd154_102 rfl ?_
        have hw := Option.some.inj h
        subst hw
        exact hret _ _ _ _ _ zd154_111 (by trivial) ⟨rfl, rfl, rfl⟩
  replace hc3 : x2 ≠ 1 := hc3
  rw [if_neg hc3] at h
  refine ⟨fun hc10 => ⟨_, rfl, ?_⟩, fun hc10 => ?_⟩
  · replace hc10 : x2 = 2 := hc10
    rw [if_pos hc10] at h
    refine zv_ild hB zd154_54 rfl rfl ?_
    refine zv_con hB zd154_55 rfl ?_
    refine zv_addw hB zd154_57 ?_
    refine zv_con hB zd154_58 rfl ?_
    refine zv_subw hB zd154_59 ?_
    refine zv_con hB zd154_60 rfl ?_
    refine zv_remw hB zd154_62 (by decide) ?_
    refine zv_ist hB zd154_63 rfl rfl rfl ?_
    refine zv_goto hB zd154_64 rfl ?_
    refine zv_ild hB zd154_79 rfl rfl ?_
    refine zv_ild hB zd154_80 rfl rfl ?_
    obtain ⟨r11, hr11, h⟩ := zi_bind h
    refine zv_cs hB (zv_emq (va2 := [.inl (zi_rem (zi_w ((zi_w (r1 + 24)) - 1)) 24), .inl r2]) (F := []) (F' := []) (G := [g0]) (G' := [g0]) (ρ := []) (φ := []) (ψ := []) [] [none] zyw_X_isPlace zyw_Sea_goFrom zye_Sea_goFrom (by decide +kernel) (zt_X_isPlace hr11) trivial trivial rfl rfl rfl rfl rfl rfl rfl) zd154_82 zxt16 rfl (by decide) (by decide) rfl ?_
    refine zv_zeq hB zd154_85 rfl (fun hc12 => ?_) (fun hc12 => ?_)
    · rw [if_pos hc12] at h
      refine zv_con hB zd154_101 rfl ?_
      refine zv_goto hB zd154_102 rfl ?_
      have hw := Option.some.inj h
      subst hw
      exact hret _ _ _ _ _ zd154_111 (by trivial) ⟨rfl, rfl, rfl⟩
    · rw [if_neg hc12] at h
      refine zv_ald hB zd154_88 rfl rfl rfl ?_
      refine zv_ild hB zd154_89 rfl rfl ?_
      refine zv_ild hB zd154_90 rfl rfl ?_
      obtain ⟨r13, hr13, h⟩ := zi_bind h
      refine zv_cs hB (zv_emq (va2 := [.inl (zi_rem (zi_w ((zi_w (r1 + 24)) - 1)) 24), .inl r2]) (F := []) (F' := []) (G := [g0]) (G' := [g0]) (ρ := []) (φ := []) (ψ := []) [] [none] zyw_X_placeOf zyw_Sea_goFrom zye_Sea_goFrom (by decide +kernel) (zt_X_placeOf hr13) trivial trivial rfl rfl rfl rfl rfl rfl rfl) zd154_92 zxt24 rfl (by decide) (by decide) rfl ?_
      obtain ⟨r14, hr14, h⟩ := zi_bind h
      refine zv_cv hB (zv_emq (va2 := [.inr 0, .inl r13]) (F := []) (F' := []) (G := [g0]) (G' := [g0]) (ρ := [0, 1]) (φ := []) (ψ := [0]) [] [some 0] zyw_Sea_isLand zyw_Sea_goFrom zye_Sea_goFrom (by decide +kernel) (zt_Sea_isLand hr14) trivial ⟨rfl, trivial⟩ rfl rfl rfl rfl rfl rfl rfl) zd154_95 zxt29 rfl (by decide) (by decide) rfl ?_
      refine zv_zeq hB zd154_98 rfl (fun hc15 => ?_) (fun hc15 => ?_)
      · rw [if_pos hc15] at h
        refine zv_ild hB zd154_105 rfl rfl ?_
        refine zv_ild hB zd154_106 rfl rfl ?_
        obtain ⟨r16, hr16, h⟩ := zi_bind h
        refine zv_cs hB (zv_emq (va2 := [.inl (zi_rem (zi_w ((zi_w (r1 + 24)) - 1)) 24), .inl r2]) (F := []) (F' := []) (G := [g0]) (G' := [g0]) (ρ := []) (φ := []) (ψ := []) [] [none] zyw_X_placeOf zyw_Sea_goFrom zye_Sea_goFrom (by decide +kernel) (zt_X_placeOf hr16) trivial trivial rfl rfl rfl rfl rfl rfl rfl) zd154_108 zxt24 rfl (by decide) (by decide) rfl ?_
        have hw := Option.some.inj h
        subst hw
        exact hret _ _ _ _ _ zd154_111 (by trivial) ⟨rfl, rfl, rfl⟩
      · rw [if_neg hc15] at h
        refine zv_con hB zd154_101 rfl ?_
        refine zv_goto hB zd154_102 rfl ?_
        have hw := Option.some.inj h
        subst hw
        exact hret _ _ _ _ _ zd154_111 (by trivial) ⟨rfl, rfl, rfl⟩
  replace hc10 : x2 ≠ 2 := hc10
  rw [if_neg hc10] at h
  refine ⟨fun hc17 => ⟨_, rfl, ?_⟩, fun hc17 => ?_⟩
  · replace hc17 : x2 = 3 := hc17
    rw [if_pos hc17] at h
    refine zv_iincw hB zd154_67 rfl rfl ?_
    refine zv_goto hB zd154_70 rfl ?_
    refine zv_ild hB zd154_79 rfl rfl ?_
    refine zv_ild hB zd154_80 rfl rfl ?_
    obtain ⟨r18, hr18, h⟩ := zi_bind h
    refine zv_cs hB (zv_emq (va2 := [.inl r1, .inl (zi_w (r2 + 1))]) (F := []) (F' := []) (G := [g0]) (G' := [g0]) (ρ := []) (φ := []) (ψ := []) [] [none] zyw_X_isPlace zyw_Sea_goFrom zye_Sea_goFrom (by decide +kernel) (zt_X_isPlace hr18) trivial trivial rfl rfl rfl rfl rfl rfl rfl) zd154_82 zxt16 rfl (by decide) (by decide) rfl ?_
    refine zv_zeq hB zd154_85 rfl (fun hc19 => ?_) (fun hc19 => ?_)
    · rw [if_pos hc19] at h
      refine zv_con hB zd154_101 rfl ?_
      refine zv_goto hB zd154_102 rfl ?_
      have hw := Option.some.inj h
      subst hw
      exact hret _ _ _ _ _ zd154_111 (by trivial) ⟨rfl, rfl, rfl⟩
    · rw [if_neg hc19] at h
      refine zv_ald hB zd154_88 rfl rfl rfl ?_
      refine zv_ild hB zd154_89 rfl rfl ?_
      refine zv_ild hB zd154_90 rfl rfl ?_
      obtain ⟨r20, hr20, h⟩ := zi_bind h
      refine zv_cs hB (zv_emq (va2 := [.inl r1, .inl (zi_w (r2 + 1))]) (F := []) (F' := []) (G := [g0]) (G' := [g0]) (ρ := []) (φ := []) (ψ := []) [] [none] zyw_X_placeOf zyw_Sea_goFrom zye_Sea_goFrom (by decide +kernel) (zt_X_placeOf hr20) trivial trivial rfl rfl rfl rfl rfl rfl rfl) zd154_92 zxt24 rfl (by decide) (by decide) rfl ?_
      obtain ⟨r21, hr21, h⟩ := zi_bind h
      refine zv_cv hB (zv_emq (va2 := [.inr 0, .inl r20]) (F := []) (F' := []) (G := [g0]) (G' := [g0]) (ρ := [0, 1]) (φ := []) (ψ := [0]) [] [some 0] zyw_Sea_isLand zyw_Sea_goFrom zye_Sea_goFrom (by decide +kernel) (zt_Sea_isLand hr21) trivial ⟨rfl, trivial⟩ rfl rfl rfl rfl rfl rfl rfl) zd154_95 zxt29 rfl (by decide) (by decide) rfl ?_
      refine zv_zeq hB zd154_98 rfl (fun hc22 => ?_) (fun hc22 => ?_)
      · rw [if_pos hc22] at h
        refine zv_ild hB zd154_105 rfl rfl ?_
        refine zv_ild hB zd154_106 rfl rfl ?_
        obtain ⟨r23, hr23, h⟩ := zi_bind h
        refine zv_cs hB (zv_emq (va2 := [.inl r1, .inl (zi_w (r2 + 1))]) (F := []) (F' := []) (G := [g0]) (G' := [g0]) (ρ := []) (φ := []) (ψ := []) [] [none] zyw_X_placeOf zyw_Sea_goFrom zye_Sea_goFrom (by decide +kernel) (zt_X_placeOf hr23) trivial trivial rfl rfl rfl rfl rfl rfl rfl) zd154_108 zxt24 rfl (by decide) (by decide) rfl ?_
        have hw := Option.some.inj h
        subst hw
        exact hret _ _ _ _ _ zd154_111 (by trivial) ⟨rfl, rfl, rfl⟩
      · rw [if_neg hc22] at h
        refine zv_con hB zd154_101 rfl ?_
        refine zv_goto hB zd154_102 rfl ?_
        have hw := Option.some.inj h
        subst hw
        exact hret _ _ _ _ _ zd154_111 (by trivial) ⟨rfl, rfl, rfl⟩
  replace hc17 : x2 ≠ 3 := hc17
  rw [if_neg hc17] at h
  refine ⟨fun hc24 => ⟨_, rfl, ?_⟩, fun hc24 => ?_⟩
  · replace hc24 : x2 = 4 := hc24
    rw [if_pos hc24] at h
    refine zv_iincw hB zd154_73 rfl rfl ?_
    refine zv_goto hB zd154_76 rfl ?_
    refine zv_ild hB zd154_79 rfl rfl ?_
    refine zv_ild hB zd154_80 rfl rfl ?_
    obtain ⟨r25, hr25, h⟩ := zi_bind h
    refine zv_cs hB (zv_emq (va2 := [.inl r1, .inl (zi_w (r2 + (-1)))]) (F := []) (F' := []) (G := [g0]) (G' := [g0]) (ρ := []) (φ := []) (ψ := []) [] [none] zyw_X_isPlace zyw_Sea_goFrom zye_Sea_goFrom (by decide +kernel) (zt_X_isPlace hr25) trivial trivial rfl rfl rfl rfl rfl rfl rfl) zd154_82 zxt16 rfl (by decide) (by decide) rfl ?_
    refine zv_zeq hB zd154_85 rfl (fun hc26 => ?_) (fun hc26 => ?_)
    · rw [if_pos hc26] at h
      refine zv_con hB zd154_101 rfl ?_
      refine zv_goto hB zd154_102 rfl ?_
      have hw := Option.some.inj h
      subst hw
      exact hret _ _ _ _ _ zd154_111 (by trivial) ⟨rfl, rfl, rfl⟩
    · rw [if_neg hc26] at h
      refine zv_ald hB zd154_88 rfl rfl rfl ?_
      refine zv_ild hB zd154_89 rfl rfl ?_
      refine zv_ild hB zd154_90 rfl rfl ?_
      obtain ⟨r27, hr27, h⟩ := zi_bind h
      refine zv_cs hB (zv_emq (va2 := [.inl r1, .inl (zi_w (r2 + (-1)))]) (F := []) (F' := []) (G := [g0]) (G' := [g0]) (ρ := []) (φ := []) (ψ := []) [] [none] zyw_X_placeOf zyw_Sea_goFrom zye_Sea_goFrom (by decide +kernel) (zt_X_placeOf hr27) trivial trivial rfl rfl rfl rfl rfl rfl rfl) zd154_92 zxt24 rfl (by decide) (by decide) rfl ?_
      obtain ⟨r28, hr28, h⟩ := zi_bind h
      refine zv_cv hB (zv_emq (va2 := [.inr 0, .inl r27]) (F := []) (F' := []) (G := [g0]) (G' := [g0]) (ρ := [0, 1]) (φ := []) (ψ := [0]) [] [some 0] zyw_Sea_isLand zyw_Sea_goFrom zye_Sea_goFrom (by decide +kernel) (zt_Sea_isLand hr28) trivial ⟨rfl, trivial⟩ rfl rfl rfl rfl rfl rfl rfl) zd154_95 zxt29 rfl (by decide) (by decide) rfl ?_
      refine zv_zeq hB zd154_98 rfl (fun hc29 => ?_) (fun hc29 => ?_)
      · rw [if_pos hc29] at h
        refine zv_ild hB zd154_105 rfl rfl ?_
        refine zv_ild hB zd154_106 rfl rfl ?_
        obtain ⟨r30, hr30, h⟩ := zi_bind h
        refine zv_cs hB (zv_emq (va2 := [.inl r1, .inl (zi_w (r2 + (-1)))]) (F := []) (F' := []) (G := [g0]) (G' := [g0]) (ρ := []) (φ := []) (ψ := []) [] [none] zyw_X_placeOf zyw_Sea_goFrom zye_Sea_goFrom (by decide +kernel) (zt_X_placeOf hr30) trivial trivial rfl rfl rfl rfl rfl rfl rfl) zd154_108 zxt24 rfl (by decide) (by decide) rfl ?_
        have hw := Option.some.inj h
        subst hw
        exact hret _ _ _ _ _ zd154_111 (by trivial) ⟨rfl, rfl, rfl⟩
      · rw [if_neg hc29] at h
        refine zv_con hB zd154_101 rfl ?_
        refine zv_goto hB zd154_102 rfl ?_
        have hw := Option.some.inj h
        subst hw
        exact hret _ _ _ _ _ zd154_111 (by trivial) ⟨rfl, rfl, rfl⟩
  replace hc24 : x2 ≠ 4 := hc24
  rw [if_neg hc24] at h
  refine ⟨_, rfl, ?_⟩
  refine zv_ild hB zd154_79 rfl rfl ?_
  refine zv_ild hB zd154_80 rfl rfl ?_
  obtain ⟨r31, hr31, h⟩ := zi_bind h
  refine zv_cs hB (zv_emq (va2 := [.inl r1, .inl r2]) (F := []) (F' := []) (G := [g0]) (G' := [g0]) (ρ := []) (φ := []) (ψ := []) [] [none] zyw_X_isPlace zyw_Sea_goFrom zye_Sea_goFrom (by decide +kernel) (zt_X_isPlace hr31) trivial trivial rfl rfl rfl rfl rfl rfl rfl) zd154_82 zxt16 rfl (by decide) (by decide) rfl ?_
  refine zv_zeq hB zd154_85 rfl (fun hc32 => ?_) (fun hc32 => ?_)
  · rw [if_pos hc32] at h
    refine zv_con hB zd154_101 rfl ?_
    refine zv_goto hB zd154_102 rfl ?_
    have hw := Option.some.inj h
    subst hw
    exact hret _ _ _ _ _ zd154_111 (by trivial) ⟨rfl, rfl, rfl⟩
  · rw [if_neg hc32] at h
    refine zv_ald hB zd154_88 rfl rfl rfl ?_
    refine zv_ild hB zd154_89 rfl rfl ?_
    refine zv_ild hB zd154_90 rfl rfl ?_
    obtain ⟨r33, hr33, h⟩ := zi_bind h
    refine zv_cs hB (zv_emq (va2 := [.inl r1, .inl r2]) (F := []) (F' := []) (G := [g0]) (G' := [g0]) (ρ := []) (φ := []) (ψ := []) [] [none] zyw_X_placeOf zyw_Sea_goFrom zye_Sea_goFrom (by decide +kernel) (zt_X_placeOf hr33) trivial trivial rfl rfl rfl rfl rfl rfl rfl) zd154_92 zxt24 rfl (by decide) (by decide) rfl ?_
    obtain ⟨r34, hr34, h⟩ := zi_bind h
    refine zv_cv hB (zv_emq (va2 := [.inr 0, .inl r33]) (F := []) (F' := []) (G := [g0]) (G' := [g0]) (ρ := [0, 1]) (φ := []) (ψ := [0]) [] [some 0] zyw_Sea_isLand zyw_Sea_goFrom zye_Sea_goFrom (by decide +kernel) (zt_Sea_isLand hr34) trivial ⟨rfl, trivial⟩ rfl rfl rfl rfl rfl rfl rfl) zd154_95 zxt29 rfl (by decide) (by decide) rfl ?_
    refine zv_zeq hB zd154_98 rfl (fun hc35 => ?_) (fun hc35 => ?_)
    · rw [if_pos hc35] at h
      refine zv_ild hB zd154_105 rfl rfl ?_
      refine zv_ild hB zd154_106 rfl rfl ?_
      obtain ⟨r36, hr36, h⟩ := zi_bind h
      refine zv_cs hB (zv_emq (va2 := [.inl r1, .inl r2]) (F := []) (F' := []) (G := [g0]) (G' := [g0]) (ρ := []) (φ := []) (ψ := []) [] [none] zyw_X_placeOf zyw_Sea_goFrom zye_Sea_goFrom (by decide +kernel) (zt_X_placeOf hr36) trivial trivial rfl rfl rfl rfl rfl rfl rfl) zd154_108 zxt24 rfl (by decide) (by decide) rfl ?_
      have hw := Option.some.inj h
      subst hw
      exact hret _ _ _ _ _ zd154_111 (by trivial) ⟨rfl, rfl, rfl⟩
    · rw [if_neg hc35] at h
      refine zv_con hB zd154_101 rfl ?_
      refine zv_goto hB zd154_102 rfl ?_
      have hw := Option.some.inj h
      subst hw
      exact hret _ _ _ _ _ zd154_111 (by trivial) ⟨rfl, rfl, rfl⟩
end
section
/-! Methods as functions, and that they do what these do. -/
/-! Pilot_step (LStarTales$View;LStarTales$Sea;II)I -/
-- names: 0 Pilot('arg', 0), 1 View('arg', 1), 2 Sea('arg', 2), 3 Law(1, 7, 1), 4 (0, 13)(3, 4, 12), 5 Sky(1, 7, 0), 6 (0, 24)(5, 1, 1), 7 (0, 24)(5, 1, 2), 8 (0, 24)(5, 1, 3), 9 (0, 14)(3, 4, 3), 10 (0, 14)(3, 4, 5), 11 (0, 14)(3, 4, 6), 12 (0, 200)(3, 4, 0), 13 (0, 40)(3, 4, 13), 14 (0, 200)(3, 4, 1), 15 (0, 12)(2, 2, 0)
-- fields: f0 = 1.law_, f1 = 1.sky_, f2 = 1.x_, f3 = 1.y_, f4 = 5.hour_, f5 = 5.night_, f6 = 5.told_, f7 = 5.sightColumns_, f8 = 5.sightRows_, f9 = 5.clouds_, f10 = 3.tellsSeen_, f11 = 1.starsAsked_, f12 = 1.starsHold_, f13 = 3.clauses_, f14 = 3.answer_, f15 = 3.seenByPlace_; arrays: g0 = 4, g1 = 6, g2 = 7, g3 = 8, g4 = 9, g5 = 10, g6 = 11, g7 = 12, g8 = 13, g9 = 14, g10 = 15; out: [('ret', None), ('f', 2), ('f', 3), ('f', 11), ('f', 12), ('f', 14), ('g', 0), ('g', 8)]
abbrev zy_Pilot_step : zNL := (16, [(0, 9), (1, 7), (2, 2), (3, 4), (5, 1)], [(1, 7, 1, 0), (1, 7, 0, 1), (1, 7, 2, 2), (1, 7, 3, 3), (5, 1, 6, 4), (5, 1, 7, 5), (5, 1, 0, 6), (5, 1, 9, 7), (5, 1, 10, 8), (5, 1, 8, 9), (3, 4, 8, 10), (1, 7, 6, 11), (1, 7, 7, 12), (3, 4, 7, 13), (3, 4, 14, 14), (3, 4, 10, 15)], [(3, 4, 12, 4), (5, 1, 1, 6), (5, 1, 2, 7), (5, 1, 3, 8), (3, 4, 3, 9), (3, 4, 5, 10), (3, 4, 6, 11), (3, 4, 0, 12), (3, 4, 13, 13), (3, 4, 1, 14), (2, 2, 0, 15)], [(4, 0, 13, 0), (6, 0, 24, 1), (7, 0, 24, 2), (8, 0, 24, 3), (9, 0, 14, 4), (10, 0, 14, 5), (11, 0, 14, 6), (12, 0, 200, 7), (13, 0, 40, 8), (14, 0, 200, 9), (15, 0, 12, 10)])
theorem zyw_Pilot_step : zv_wf zy_Pilot_step = true := by decide +kernel
theorem zye_Pilot_step : zv_ek2 zy_Pilot_step = true := by decide +kernel
def zf_Pilot_step (x3 : Int) (x4 : Int) (f2 : Int) (f3 : Int) (f4 : Int) (f5 : Int) (f6 : Int) (f7 : Int) (f8 : Int) (f9 : Int) (f10 : Int) (f11 : Int) (f12 : Int) (f13 : Int) (f14 : Int) (f15 : Int) (g0 : (Int → Int)) (g1 : (Int → Int)) (g2 : (Int → Int)) (g3 : (Int → Int)) (g4 : (Int → Int)) (g5 : (Int → Int)) (g6 : (Int → Int)) (g7 : (Int → Int)) (g8 : (Int → Int)) (g9 : (Int → Int)) (g10 : (Int → Int)) : Option (Int × Int × Int × Int × Int × Int × (Int → Int) × (Int → Int)) := (zf_X_columnOf x3).bind fun r1 => ((zf_X_rowOf x3).bind fun r2 => ((zf_View_goTo r1 r2 f2 f3 f4 f5 g0).bind fun r3 => ((zf_View_sees x4 f6 f4 r3.1 r3.2.1 f7 f8 f9 f10 f11 f12 f13 f14 f15 g1 g2 r3.2.2 g3 g4 g5 g6 g7 g8 g9).bind fun r4 => (if r4.1 = 0 then (some (x3, r3.1, r3.2.1, r4.2.1, r4.2.2.1, r4.2.2.2.1, r4.2.2.2.2.1, r4.2.2.2.2.2)) else ((zf_Sky_standing x4 f4 g1).bind fun r6 => ((zf_Math_floorMod (zi_w (r6 - r1)) 24).bind fun r7 => ((zf_Math_min r7 (zi_w (24 - r7))).bind fun r8 => (cond (zi_ix x4 24) (if r8 = 0 then (if (zi_w ((g2 x4) - r2)) = 0 then (some (x3, r3.1, r3.2.1, r4.2.1, r4.2.2.1, r4.2.2.2.1, r4.2.2.2.2.1, r4.2.2.2.2.2)) else ((zf_Math_abs (zi_w ((g2 x4) - r2))).bind fun r24 => (if r8 < r24 then (if 0 < (zi_w ((g2 x4) - r2)) then ((zf_Sea_goFrom x3 3 g10).bind fun r29 => (if r29 = (-1) then (some (x3, r3.1, r3.2.1, r4.2.1, r4.2.2.1, r4.2.2.2.1, r4.2.2.2.2.1, r4.2.2.2.2.2)) else (some (r29, r3.1, r3.2.1, r4.2.1, r4.2.2.1, r4.2.2.2.1, r4.2.2.2.2.1, r4.2.2.2.2.2)))) else ((zf_Sea_goFrom x3 4 g10).bind fun r27 => (if r27 = (-1) then (some (x3, r3.1, r3.2.1, r4.2.1, r4.2.2.1, r4.2.2.2.1, r4.2.2.2.2.1, r4.2.2.2.2.2)) else (some (r27, r3.1, r3.2.1, r4.2.1, r4.2.2.1, r4.2.2.2.1, r4.2.2.2.2.1, r4.2.2.2.2.2))))) else (if 12 < r7 then ((zf_Sea_goFrom x3 2 g10).bind fun r32 => (if r32 = (-1) then (some (x3, r3.1, r3.2.1, r4.2.1, r4.2.2.1, r4.2.2.2.1, r4.2.2.2.2.1, r4.2.2.2.2.2)) else (some (r32, r3.1, r3.2.1, r4.2.1, r4.2.2.1, r4.2.2.2.1, r4.2.2.2.2.1, r4.2.2.2.2.2)))) else ((zf_Sea_goFrom x3 1 g10).bind fun r34 => (if r34 = (-1) then (some (x3, r3.1, r3.2.1, r4.2.1, r4.2.2.1, r4.2.2.2.1, r4.2.2.2.2.1, r4.2.2.2.2.2)) else (some (r34, r3.1, r3.2.1, r4.2.1, r4.2.2.1, r4.2.2.2.1, r4.2.2.2.2.1, r4.2.2.2.2.2)))))))) else ((zf_Math_abs (zi_w ((g2 x4) - r2))).bind fun r11 => (if r8 < r11 then (if 0 < (zi_w ((g2 x4) - r2)) then ((zf_Sea_goFrom x3 3 g10).bind fun r16 => (if r16 = (-1) then (some (x3, r3.1, r3.2.1, r4.2.1, r4.2.2.1, r4.2.2.2.1, r4.2.2.2.2.1, r4.2.2.2.2.2)) else (some (r16, r3.1, r3.2.1, r4.2.1, r4.2.2.1, r4.2.2.2.1, r4.2.2.2.2.1, r4.2.2.2.2.2)))) else ((zf_Sea_goFrom x3 4 g10).bind fun r14 => (if r14 = (-1) then (some (x3, r3.1, r3.2.1, r4.2.1, r4.2.2.1, r4.2.2.2.1, r4.2.2.2.2.1, r4.2.2.2.2.2)) else (some (r14, r3.1, r3.2.1, r4.2.1, r4.2.2.1, r4.2.2.2.1, r4.2.2.2.2.1, r4.2.2.2.2.2))))) else (if 12 < r7 then ((zf_Sea_goFrom x3 2 g10).bind fun r19 => (if r19 = (-1) then (some (x3, r3.1, r3.2.1, r4.2.1, r4.2.2.1, r4.2.2.2.1, r4.2.2.2.2.1, r4.2.2.2.2.2)) else (some (r19, r3.1, r3.2.1, r4.2.1, r4.2.2.1, r4.2.2.2.1, r4.2.2.2.2.1, r4.2.2.2.2.2)))) else ((zf_Sea_goFrom x3 1 g10).bind fun r21 => (if r21 = (-1) then (some (x3, r3.1, r3.2.1, r4.2.1, r4.2.2.1, r4.2.2.2.1, r4.2.2.2.2.1, r4.2.2.2.2.2)) else (some (r21, r3.1, r3.2.1, r4.2.1, r4.2.2.1, r4.2.2.2.1, r4.2.2.2.2.1, r4.2.2.2.2.2)))))))) none))))))))
theorem zd153_0 : decode zxm153.2.1 0 = .ok (.iload_n 3, 1) := by decide +kernel
theorem zd153_1 : decode zxm153.2.1 1 = .ok (.invokestatic 58, 3) := by decide +kernel
theorem zd153_4 : decode zxm153.2.1 4 = .ok (.istore 5, 2) := by decide +kernel
theorem zd153_6 : decode zxm153.2.1 6 = .ok (.iload_n 3, 1) := by decide +kernel
theorem zd153_7 : decode zxm153.2.1 7 = .ok (.invokestatic 62, 3) := by decide +kernel
theorem zd153_10 : decode zxm153.2.1 10 = .ok (.istore 6, 2) := by decide +kernel
theorem zd153_12 : decode zxm153.2.1 12 = .ok (.aload_n 1, 1) := by decide +kernel
theorem zd153_13 : decode zxm153.2.1 13 = .ok (.iload 5, 2) := by decide +kernel
theorem zd153_15 : decode zxm153.2.1 15 = .ok (.iload 6, 2) := by decide +kernel
theorem zd153_17 : decode zxm153.2.1 17 = .ok (.invokevirtual 65, 3) := by decide +kernel
theorem zd153_20 : decode zxm153.2.1 20 = .ok (.aload_n 1, 1) := by decide +kernel
theorem zd153_21 : decode zxm153.2.1 21 = .ok (.iload 4, 2) := by decide +kernel
theorem zd153_23 : decode zxm153.2.1 23 = .ok (.invokevirtual 71, 3) := by decide +kernel
theorem zd153_26 : decode zxm153.2.1 26 = .ok (.ifCond .ne 5, 3) := by decide +kernel
theorem zd153_29 : decode zxm153.2.1 29 = .ok (.iload_n 3, 1) := by decide +kernel
theorem zd153_30 : decode zxm153.2.1 30 = .ok (.ireturn, 1) := by decide +kernel
theorem zd153_31 : decode zxm153.2.1 31 = .ok (.aload_n 1, 1) := by decide +kernel
theorem zd153_32 : decode zxm153.2.1 32 = .ok (.getfield 75, 3) := by decide +kernel
theorem zd153_35 : decode zxm153.2.1 35 = .ok (.iload 4, 2) := by decide +kernel
theorem zd153_37 : decode zxm153.2.1 37 = .ok (.invokevirtual 79, 3) := by decide +kernel
theorem zd153_40 : decode zxm153.2.1 40 = .ok (.iload 5, 2) := by decide +kernel
theorem zd153_42 : decode zxm153.2.1 42 = .ok (.isub, 1) := by decide +kernel
theorem zd153_43 : decode zxm153.2.1 43 = .ok (.bipush 24, 2) := by decide +kernel
theorem zd153_45 : decode zxm153.2.1 45 = .ok (.invokestatic 84, 3) := by decide +kernel
theorem zd153_48 : decode zxm153.2.1 48 = .ok (.istore 7, 2) := by decide +kernel
theorem zd153_50 : decode zxm153.2.1 50 = .ok (.iload 7, 2) := by decide +kernel
theorem zd153_52 : decode zxm153.2.1 52 = .ok (.bipush 24, 2) := by decide +kernel
theorem zd153_54 : decode zxm153.2.1 54 = .ok (.iload 7, 2) := by decide +kernel
theorem zd153_56 : decode zxm153.2.1 56 = .ok (.isub, 1) := by decide +kernel
theorem zd153_57 : decode zxm153.2.1 57 = .ok (.invokestatic 90, 3) := by decide +kernel
theorem zd153_60 : decode zxm153.2.1 60 = .ok (.istore 8, 2) := by decide +kernel
theorem zd153_62 : decode zxm153.2.1 62 = .ok (.aload_n 1, 1) := by decide +kernel
theorem zd153_63 : decode zxm153.2.1 63 = .ok (.getfield 75, 3) := by decide +kernel
theorem zd153_66 : decode zxm153.2.1 66 = .ok (.getfield 93, 3) := by decide +kernel
theorem zd153_69 : decode zxm153.2.1 69 = .ok (.iload 4, 2) := by decide +kernel
theorem zd153_71 : decode zxm153.2.1 71 = .ok (.iaload, 1) := by decide +kernel
theorem zd153_72 : decode zxm153.2.1 72 = .ok (.iload 6, 2) := by decide +kernel
theorem zd153_74 : decode zxm153.2.1 74 = .ok (.isub, 1) := by decide +kernel
theorem zd153_75 : decode zxm153.2.1 75 = .ok (.istore 9, 2) := by decide +kernel
theorem zd153_77 : decode zxm153.2.1 77 = .ok (.iload 8, 2) := by decide +kernel
theorem zd153_79 : decode zxm153.2.1 79 = .ok (.ifCond .ne 10, 3) := by decide +kernel
theorem zd153_82 : decode zxm153.2.1 82 = .ok (.iload 9, 2) := by decide +kernel
theorem zd153_84 : decode zxm153.2.1 84 = .ok (.ifCond .ne 5, 3) := by decide +kernel
theorem zd153_87 : decode zxm153.2.1 87 = .ok (.iload_n 3, 1) := by decide +kernel
theorem zd153_88 : decode zxm153.2.1 88 = .ok (.ireturn, 1) := by decide +kernel
theorem zd153_89 : decode zxm153.2.1 89 = .ok (.iload 8, 2) := by decide +kernel
theorem zd153_91 : decode zxm153.2.1 91 = .ok (.iload 9, 2) := by decide +kernel
theorem zd153_93 : decode zxm153.2.1 93 = .ok (.invokestatic 96, 3) := by decide +kernel
theorem zd153_96 : decode zxm153.2.1 96 = .ok (.if_icmp .lt 20, 3) := by decide +kernel
theorem zd153_99 : decode zxm153.2.1 99 = .ok (.iload 7, 2) := by decide +kernel
theorem zd153_101 : decode zxm153.2.1 101 = .ok (.bipush 12, 2) := by decide +kernel
theorem zd153_103 : decode zxm153.2.1 103 = .ok (.if_icmp .gt 7, 3) := by decide +kernel
theorem zd153_106 : decode zxm153.2.1 106 = .ok (.iconst 1, 1) := by decide +kernel
theorem zd153_107 : decode zxm153.2.1 107 = .ok (.goto 4, 3) := by decide +kernel
theorem zd153_110 : decode zxm153.2.1 110 = .ok (.iconst 2, 1) := by decide +kernel
theorem zd153_111 : decode zxm153.2.1 111 = .ok (.istore 10, 2) := by decide +kernel
theorem zd153_113 : decode zxm153.2.1 113 = .ok (.goto 15, 3) := by decide +kernel
theorem zd153_116 : decode zxm153.2.1 116 = .ok (.iload 9, 2) := by decide +kernel
theorem zd153_118 : decode zxm153.2.1 118 = .ok (.ifCond .le 7, 3) := by decide +kernel
theorem zd153_121 : decode zxm153.2.1 121 = .ok (.iconst 3, 1) := by decide +kernel
theorem zd153_122 : decode zxm153.2.1 122 = .ok (.goto 4, 3) := by decide +kernel
theorem zd153_125 : decode zxm153.2.1 125 = .ok (.iconst 4, 1) := by decide +kernel
theorem zd153_126 : decode zxm153.2.1 126 = .ok (.istore 10, 2) := by decide +kernel
theorem zd153_128 : decode zxm153.2.1 128 = .ok (.aload_n 2, 1) := by decide +kernel
theorem zd153_129 : decode zxm153.2.1 129 = .ok (.iload_n 3, 1) := by decide +kernel
theorem zd153_130 : decode zxm153.2.1 130 = .ok (.iload 10, 2) := by decide +kernel
theorem zd153_132 : decode zxm153.2.1 132 = .ok (.invokevirtual 99, 3) := by decide +kernel
theorem zd153_135 : decode zxm153.2.1 135 = .ok (.istore 11, 2) := by decide +kernel
theorem zd153_137 : decode zxm153.2.1 137 = .ok (.iload 11, 2) := by decide +kernel
theorem zd153_139 : decode zxm153.2.1 139 = .ok (.iconst (-1), 1) := by decide +kernel
theorem zd153_140 : decode zxm153.2.1 140 = .ok (.if_icmp .ne 7, 3) := by decide +kernel
theorem zd153_143 : decode zxm153.2.1 143 = .ok (.iload_n 3, 1) := by decide +kernel
theorem zd153_144 : decode zxm153.2.1 144 = .ok (.goto 5, 3) := by decide +kernel
theorem zd153_147 : decode zxm153.2.1 147 = .ok (.iload 11, 2) := by decide +kernel
theorem zd153_149 : decode zxm153.2.1 149 = .ok (.ireturn, 1) := by decide +kernel
theorem zt_Pilot_step {x3 : Int} {x4 : Int} {f2 : Int} {f3 : Int} {f4 : Int} {f5 : Int} {f6 : Int} {f7 : Int} {f8 : Int} {f9 : Int} {f10 : Int} {f11 : Int} {f12 : Int} {f13 : Int} {f14 : Int} {f15 : Int} {g0 : (Int → Int)} {g1 : (Int → Int)} {g2 : (Int → Int)} {g3 : (Int → Int)} {g4 : (Int → Int)} {g5 : (Int → Int)} {g6 : (Int → Int)} {g7 : (Int → Int)} {g8 : (Int → Int)} {g9 : (Int → Int)} {g10 : (Int → Int)} {o : Int × Int × Int × Int × Int × Int × (Int → Int) × (Int → Int)} (h : zf_Pilot_step x3 x4 f2 f3 f4 f5 f6 f7 f8 f9 f10 f11 f12 f13 f14 f15 g0 g1 g2 g3 g4 g5 g6 g7 g8 g9 g10 = some o) : zv_Fn z_TB z_cl z_KX zy_Pilot_step zxm153 (4, 240) [.inr 0, .inr 1, .inr 2, .inl x3, .inl x4] [.inr 3, .inr 5, .inl f2, .inl f3, .inl f4, .inl f5, .inl f6, .inl f7, .inl f8, .inl f9, .inl f10, .inl f11, .inl f12, .inl f13, .inl f14, .inl f15] [g0, g1, g2, g3, g4, g5, g6, g7, g8, g9, g10] (some o.1) [.inr 3, .inr 5, .inl o.2.1, .inl o.2.2.1, .inl f4, .inl f5, .inl f6, .inl f7, .inl f8, .inl f9, .inl f10, .inl o.2.2.2.1, .inl o.2.2.2.2.1, .inl f13, .inl o.2.2.2.2.2.1, .inl f15] [o.2.2.2.2.2.2.1, g1, g2, g3, g4, g5, g6, g7, o.2.2.2.2.2.2.2, g9, g10] := zv_meth (K := (z_KF6, z_KC6, z_KL6, z_KT6, [], [], [], none)) (FT := z_FT) (MT := z_MT) (n := 5) zxp153 (z_ks6 _ (fun _ h => List.mem_cons_of_mem _ h) _ _ _ _ (fun j r h _ => by cases h)) (fun _ _ => zs_KX_p) zyw_Pilot_step (fun va F G h => by obtain ⟨rfl, _⟩ := h; rfl) (fun va F G h => by obtain ⟨rfl, _⟩ := h; rfl) rfl fun good va F G hB hret hvret hP => by
  obtain ⟨rfl, rfl, rfl⟩ := hP
  unfold zf_Pilot_step at h
  refine zv_ild hB zd153_0 rfl rfl ?_
  obtain ⟨r1, hr1, h⟩ := zi_bind h
  refine zv_cs hB (zv_emq (va2 := [.inl x3]) (F := [.inr 3, .inr 5, .inl f2, .inl f3, .inl f4, .inl f5, .inl f6, .inl f7, .inl f8, .inl f9, .inl f10, .inl f11, .inl f12, .inl f13, .inl f14, .inl f15]) (F' := [.inr 3, .inr 5, .inl f2, .inl f3, .inl f4, .inl f5, .inl f6, .inl f7, .inl f8, .inl f9, .inl f10, .inl f11, .inl f12, .inl f13, .inl f14, .inl f15]) (G := [g0, g1, g2, g3, g4, g5, g6, g7, g8, g9, g10]) (G' := [g0, g1, g2, g3, g4, g5, g6, g7, g8, g9, g10]) (ρ := []) (φ := []) (ψ := []) [none, none, none, none, none, none, none, none, none, none, none, none, none, none, none, none] [none, none, none, none, none, none, none, none, none, none, none] zyw_X_columnOf zyw_Pilot_step zye_Pilot_step (by decide +kernel) (zt_X_columnOf hr1) trivial trivial rfl rfl rfl rfl rfl rfl rfl) zd153_1 zxt31 rfl (by decide) (by decide) rfl ?_
  refine zv_ist hB zd153_4 rfl rfl rfl ?_
  refine zv_ild hB zd153_6 rfl rfl ?_
  obtain ⟨r2, hr2, h⟩ := zi_bind h
  refine zv_cs hB (zv_emq (va2 := [.inl x3]) (F := [.inr 3, .inr 5, .inl f2, .inl f3, .inl f4, .inl f5, .inl f6, .inl f7, .inl f8, .inl f9, .inl f10, .inl f11, .inl f12, .inl f13, .inl f14, .inl f15]) (F' := [.inr 3, .inr 5, .inl f2, .inl f3, .inl f4, .inl f5, .inl f6, .inl f7, .inl f8, .inl f9, .inl f10, .inl f11, .inl f12, .inl f13, .inl f14, .inl f15]) (G := [g0, g1, g2, g3, g4, g5, g6, g7, g8, g9, g10]) (G' := [g0, g1, g2, g3, g4, g5, g6, g7, g8, g9, g10]) (ρ := []) (φ := []) (ψ := []) [none, none, none, none, none, none, none, none, none, none, none, none, none, none, none, none] [none, none, none, none, none, none, none, none, none, none, none] zyw_X_rowOf zyw_Pilot_step zye_Pilot_step (by decide +kernel) (zt_X_rowOf hr2) trivial trivial rfl rfl rfl rfl rfl rfl rfl) zd153_7 zxt30 rfl (by decide) (by decide) rfl ?_
  refine zv_ist hB zd153_10 rfl rfl rfl ?_
  refine zv_ald hB zd153_12 rfl rfl rfl ?_
  refine zv_ild hB zd153_13 rfl rfl ?_
  refine zv_ild hB zd153_15 rfl rfl ?_
  obtain ⟨r3, hr3, h⟩ := zi_bind h
  refine zv_cv hB (zv_emq (va2 := [.inr 1, .inl r1, .inl r2]) (F := [.inr 3, .inr 5, .inl f2, .inl f3, .inl f4, .inl f5, .inl f6, .inl f7, .inl f8, .inl f9, .inl f10, .inl f11, .inl f12, .inl f13, .inl f14, .inl f15]) (F' := [.inr 3, .inr 5, .inl r3.1, .inl r3.2.1, .inl f4, .inl f5, .inl f6, .inl f7, .inl f8, .inl f9, .inl f10, .inl f11, .inl f12, .inl f13, .inl f14, .inl f15]) (G := [g0, g1, g2, g3, g4, g5, g6, g7, g8, g9, g10]) (G' := [r3.2.2, g1, g2, g3, g4, g5, g6, g7, g8, g9, g10]) (ρ := [1, 3, 4, 5]) (φ := [2, 3, 0, 1, 4, 5]) (ψ := [0]) [some 2, some 3, some 0, some 1, some 4, some 5, none, none, none, none, none, none, none, none, none, none] [some 0, none, none, none, none, none, none, none, none, none, none] zyw_View_goTo zyw_Pilot_step zye_Pilot_step (by decide +kernel) (zt_View_goTo hr3) ⟨⟨_, rfl, fun _ => rfl⟩, ⟨_, rfl, fun _ => rfl⟩, ⟨_, rfl, fun _ => rfl⟩, ⟨_, rfl, fun _ => rfl⟩, ⟨_, rfl, fun _ => rfl⟩, ⟨_, rfl, fun _ => rfl⟩, trivial⟩ ⟨rfl, trivial⟩ rfl rfl rfl rfl rfl rfl rfl) zd153_17 zxt86 rfl (by decide) (by decide) rfl ?_
  refine zv_ald hB zd153_20 rfl rfl rfl ?_
  refine zv_ild hB zd153_21 rfl rfl ?_
  obtain ⟨r4, hr4, h⟩ := zi_bind h
  refine zv_cv hB (zv_emq (va2 := [.inr 1, .inl x4]) (F := [.inr 3, .inr 5, .inl r3.1, .inl r3.2.1, .inl f4, .inl f5, .inl f6, .inl f7, .inl f8, .inl f9, .inl f10, .inl f11, .inl f12, .inl f13, .inl f14, .inl f15]) (F' := [.inr 3, .inr 5, .inl r3.1, .inl r3.2.1, .inl f4, .inl f5, .inl f6, .inl f7, .inl f8, .inl f9, .inl f10, .inl r4.2.1, .inl r4.2.2.1, .inl f13, .inl r4.2.2.2.1, .inl f15]) (G := [r3.2.2, g1, g2, g3, g4, g5, g6, g7, g8, g9, g10]) (G' := [r4.2.2.2.2.1, g1, g2, g3, g4, g5, g6, g7, r4.2.2.2.2.2, g9, g10]) (ρ := [1, 5, 6, 7, 3, 4, 8, 9, 10, 11, 12, 13, 14]) (φ := [1, 6, 4, 2, 3, 7, 8, 9, 0, 10, 11, 12, 13, 14, 15]) (ψ := [1, 2, 0, 3, 4, 5, 6, 7, 8, 9]) [some 8, some 0, some 3, some 4, some 2, none, some 1, some 5, some 6, some 7, some 9, some 10, some 11, some 12, some 13, some 14] [some 2, some 0, some 1, some 3, some 4, some 5, some 6, some 7, some 8, some 9, none] zyw_View_sees zyw_Pilot_step zye_Pilot_step (by decide +kernel) (zt_View_sees hr4) ⟨⟨_, rfl, fun _ => rfl⟩, ⟨_, rfl, fun _ => rfl⟩, ⟨_, rfl, fun _ => rfl⟩, ⟨_, rfl, fun _ => rfl⟩, ⟨_, rfl, fun _ => rfl⟩, ⟨_, rfl, fun _ => rfl⟩, ⟨_, rfl, fun _ => rfl⟩, ⟨_, rfl, fun _ => rfl⟩, ⟨_, rfl, fun _ => rfl⟩, ⟨_, rfl, fun _ => rfl⟩, ⟨_, rfl, fun _ => rfl⟩, ⟨_, rfl, fun _ => rfl⟩, ⟨_, rfl, fun _ => rfl⟩, ⟨_, rfl, fun _ => rfl⟩, ⟨_, rfl, fun _ => rfl⟩, trivial⟩ ⟨rfl, rfl, rfl, rfl, rfl, rfl, rfl, rfl, rfl, rfl, trivial⟩ rfl rfl rfl rfl rfl rfl rfl) zd153_23 zxt89 rfl (by decide) (by decide) rfl ?_
  refine zv_zne hB zd153_26 rfl (fun hc5 => ?_) (fun hc5 => ?_)
  · rw [if_neg hc5] at h
    refine zv_ald hB zd153_31 rfl rfl rfl ?_
    refine zv_getq hB zd153_32 rfl rfl rfl ?_
    refine zv_ild hB zd153_35 rfl rfl ?_
    obtain ⟨r6, hr6, h⟩ := zi_bind h
    refine zv_cv hB (zv_emq (va2 := [.inr 5, .inl x4]) (F := [.inr 3, .inr 5, .inl r3.1, .inl r3.2.1, .inl f4, .inl f5, .inl f6, .inl f7, .inl f8, .inl f9, .inl f10, .inl r4.2.1, .inl r4.2.2.1, .inl f13, .inl r4.2.2.2.1, .inl f15]) (F' := [.inr 3, .inr 5, .inl r3.1, .inl r3.2.1, .inl f4, .inl f5, .inl f6, .inl f7, .inl f8, .inl f9, .inl f10, .inl r4.2.1, .inl r4.2.2.1, .inl f13, .inl r4.2.2.2.1, .inl f15]) (G := [r4.2.2.2.2.1, g1, g2, g3, g4, g5, g6, g7, r4.2.2.2.2.2, g9, g10]) (G' := [r4.2.2.2.2.1, g1, g2, g3, g4, g5, g6, g7, r4.2.2.2.2.2, g9, g10]) (ρ := [5, 6]) (φ := [4]) (ψ := [1]) [none, none, none, none, some 0, none, none, none, none, none, none, none, none, none, none, none] [none, some 0, none, none, none, none, none, none, none, none, none] zyw_Sky_standing zyw_Pilot_step zye_Pilot_step (by decide +kernel) (zt_Sky_standing hr6) ⟨⟨_, rfl, fun _ => rfl⟩, trivial⟩ ⟨rfl, trivial⟩ rfl rfl rfl rfl rfl rfl rfl) zd153_37 zxt82 rfl (by decide) (by decide) rfl ?_
    refine zv_ild hB zd153_40 rfl rfl ?_
    refine zv_subw hB zd153_42 ?_
    refine zv_con hB zd153_43 rfl ?_
    obtain ⟨r7, hr7, h⟩ := zi_bind h
    refine zv_cs hB (zv_emq (va2 := [.inl (zi_w (r6 - r1)), .inl 24]) (F := [.inr 3, .inr 5, .inl r3.1, .inl r3.2.1, .inl f4, .inl f5, .inl f6, .inl f7, .inl f8, .inl f9, .inl f10, .inl r4.2.1, .inl r4.2.2.1, .inl f13, .inl r4.2.2.2.1, .inl f15]) (F' := [.inr 3, .inr 5, .inl r3.1, .inl r3.2.1, .inl f4, .inl f5, .inl f6, .inl f7, .inl f8, .inl f9, .inl f10, .inl r4.2.1, .inl r4.2.2.1, .inl f13, .inl r4.2.2.2.1, .inl f15]) (G := [r4.2.2.2.2.1, g1, g2, g3, g4, g5, g6, g7, r4.2.2.2.2.2, g9, g10]) (G' := [r4.2.2.2.2.1, g1, g2, g3, g4, g5, g6, g7, r4.2.2.2.2.2, g9, g10]) (ρ := []) (φ := []) (ψ := []) [none, none, none, none, none, none, none, none, none, none, none, none, none, none, none, none] [none, none, none, none, none, none, none, none, none, none, none] zyw_Math_floorMod zyw_Pilot_step zye_Pilot_step (by decide +kernel) (zt_Math_floorMod hr7) trivial trivial rfl rfl rfl rfl rfl rfl rfl) zd153_45 zxt129 rfl (by decide) (by decide) rfl ?_
    refine zv_ist hB zd153_48 rfl rfl rfl ?_
    refine zv_ild hB zd153_50 rfl rfl ?_
    refine zv_con hB zd153_52 rfl ?_
    refine zv_ild hB zd153_54 rfl rfl ?_
    refine zv_subw hB zd153_56 ?_
    obtain ⟨r8, hr8, h⟩ := zi_bind h
    refine zv_cs hB (zv_emq (va2 := [.inl r7, .inl (zi_w (24 - r7))]) (F := [.inr 3, .inr 5, .inl r3.1, .inl r3.2.1, .inl f4, .inl f5, .inl f6, .inl f7, .inl f8, .inl f9, .inl f10, .inl r4.2.1, .inl r4.2.2.1, .inl f13, .inl r4.2.2.2.1, .inl f15]) (F' := [.inr 3, .inr 5, .inl r3.1, .inl r3.2.1, .inl f4, .inl f5, .inl f6, .inl f7, .inl f8, .inl f9, .inl f10, .inl r4.2.1, .inl r4.2.2.1, .inl f13, .inl r4.2.2.2.1, .inl f15]) (G := [r4.2.2.2.2.1, g1, g2, g3, g4, g5, g6, g7, r4.2.2.2.2.2, g9, g10]) (G' := [r4.2.2.2.2.1, g1, g2, g3, g4, g5, g6, g7, r4.2.2.2.2.2, g9, g10]) (ρ := []) (φ := []) (ψ := []) [none, none, none, none, none, none, none, none, none, none, none, none, none, none, none, none] [none, none, none, none, none, none, none, none, none, none, none] zyw_Math_min zyw_Pilot_step zye_Pilot_step (by decide +kernel) (zt_Math_min hr8) trivial trivial rfl rfl rfl rfl rfl rfl rfl) zd153_57 zxt37 rfl (by decide) (by decide) rfl ?_
    refine zv_ist hB zd153_60 rfl rfl rfl ?_
    refine zv_ald hB zd153_62 rfl rfl rfl ?_
    refine zv_getq hB zd153_63 rfl rfl rfl ?_
    refine zv_getr hB zd153_66 rfl ?_
    refine zv_ild hB zd153_69 rfl rfl ?_
    obtain ⟨c9, h⟩ := zi_if h
    refine zv_iald hB zd153_71 rfl rfl (zi_ix_ok c9).1 (zi_ix_ok c9).2 (fun _ _ => ?_)
    refine zv_ild hB zd153_72 rfl rfl ?_
    refine zv_subw hB zd153_74 ?_
    refine zv_ist hB zd153_75 rfl rfl rfl ?_
    refine zv_ild hB zd153_77 rfl rfl ?_
    refine zv_zne hB zd153_79 rfl (fun hc10 => ?_) (fun hc10 => ?_)
    · rw [if_neg hc10] at h
      refine zv_ild hB zd153_89 rfl rfl ?_
      refine zv_ild hB zd153_91 rfl rfl ?_
      obtain ⟨r11, hr11, h⟩ := zi_bind h
      refine zv_cs hB (zv_emq (va2 := [.inl (zi_w ((g2 x4) - r2))]) (F := [.inr 3, .inr 5, .inl r3.1, .inl r3.2.1, .inl f4, .inl f5, .inl f6, .inl f7, .inl f8, .inl f9, .inl f10, .inl r4.2.1, .inl r4.2.2.1, .inl f13, .inl r4.2.2.2.1, .inl f15]) (F' := [.inr 3, .inr 5, .inl r3.1, .inl r3.2.1, .inl f4, .inl f5, .inl f6, .inl f7, .inl f8, .inl f9, .inl f10, .inl r4.2.1, .inl r4.2.2.1, .inl f13, .inl r4.2.2.2.1, .inl f15]) (G := [r4.2.2.2.2.1, g1, g2, g3, g4, g5, g6, g7, r4.2.2.2.2.2, g9, g10]) (G' := [r4.2.2.2.2.1, g1, g2, g3, g4, g5, g6, g7, r4.2.2.2.2.2, g9, g10]) (ρ := []) (φ := []) (ψ := []) [none, none, none, none, none, none, none, none, none, none, none, none, none, none, none, none] [none, none, none, none, none, none, none, none, none, none, none] zyw_Math_abs zyw_Pilot_step zye_Pilot_step (by decide +kernel) (zt_Math_abs hr11) trivial trivial rfl rfl rfl rfl rfl rfl rfl) zd153_93 zxt91 rfl (by decide) (by decide) rfl ?_
      refine zv_clt hB zd153_96 rfl (fun hc12 => ?_) (fun hc12 => ?_)
      · rw [if_pos hc12] at h
        refine zv_ild hB zd153_116 rfl rfl ?_
        refine zv_zle hB zd153_118 rfl (fun hc13 => ?_) (fun hc13 => ?_)
        · rw [if_neg (Int.not_lt.mpr hc13)] at h
          refine zv_con hB zd153_125 rfl ?_
          refine zv_ist hB zd153_126 rfl rfl rfl ?_
          refine zv_ald hB zd153_128 rfl rfl rfl ?_
          refine zv_ild hB zd153_129 rfl rfl ?_
          refine zv_ild hB zd153_130 rfl rfl ?_
          obtain ⟨r14, hr14, h⟩ := zi_bind h
          refine zv_cv hB (zv_emq (va2 := [.inr 2, .inl x3, .inl 4]) (F := [.inr 3, .inr 5, .inl r3.1, .inl r3.2.1, .inl f4, .inl f5, .inl f6, .inl f7, .inl f8, .inl f9, .inl f10, .inl r4.2.1, .inl r4.2.2.1, .inl f13, .inl r4.2.2.2.1, .inl f15]) (F' := [.inr 3, .inr 5, .inl r3.1, .inl r3.2.1, .inl f4, .inl f5, .inl f6, .inl f7, .inl f8, .inl f9, .inl f10, .inl r4.2.1, .inl r4.2.2.1, .inl f13, .inl r4.2.2.2.1, .inl f15]) (G := [r4.2.2.2.2.1, g1, g2, g3, g4, g5, g6, g7, r4.2.2.2.2.2, g9, g10]) (G' := [r4.2.2.2.2.1, g1, g2, g3, g4, g5, g6, g7, r4.2.2.2.2.2, g9, g10]) (ρ := [2, 15]) (φ := []) (ψ := [10]) [none, none, none, none, none, none, none, none, none, none, none, none, none, none, none, none] [none, none, none, none, none, none, none, none, none, none, some 0] zyw_Sea_goFrom zyw_Pilot_step zye_Pilot_step (by decide +kernel) (zt_Sea_goFrom hr14) trivial ⟨rfl, trivial⟩ rfl rfl rfl rfl rfl rfl rfl) zd153_132 zxt154 rfl (by decide) (by decide) rfl ?_
          refine zv_ist hB zd153_135 rfl rfl rfl ?_
          refine zv_ild hB zd153_137 rfl rfl ?_
          refine zv_con hB zd153_139 rfl ?_
          refine zv_cne hB zd153_140 rfl (fun hc15 => ?_) (fun hc15 => ?_)
          · rw [if_neg hc15] at h
            refine zv_ild hB zd153_147 rfl rfl ?_
            have hw := Option.some.inj h
            subst hw
            exact hret _ _ _ _ _ zd153_149 (by trivial) ⟨rfl, rfl, rfl⟩
          · rw [if_pos hc15] at h
            refine zv_ild hB zd153_143 rfl rfl ?_
            refine zv_goto hB zd153_144 rfl ?_
            have hw := Option.some.inj h
            subst hw
            exact hret _ _ _ _ _ zd153_149 (by trivial) ⟨rfl, rfl, rfl⟩
        · rw [if_pos hc13] at h
          refine zv_con hB zd153_121 rfl ?_
          refine zv_goto hB zd153_122 rfl ?_
          refine zv_ist hB zd153_126 rfl rfl rfl ?_
          refine zv_ald hB zd153_128 rfl rfl rfl ?_
          refine zv_ild hB zd153_129 rfl rfl ?_
          refine zv_ild hB zd153_130 rfl rfl ?_
          obtain ⟨r16, hr16, h⟩ := zi_bind h
          refine zv_cv hB (zv_emq (va2 := [.inr 2, .inl x3, .inl 3]) (F := [.inr 3, .inr 5, .inl r3.1, .inl r3.2.1, .inl f4, .inl f5, .inl f6, .inl f7, .inl f8, .inl f9, .inl f10, .inl r4.2.1, .inl r4.2.2.1, .inl f13, .inl r4.2.2.2.1, .inl f15]) (F' := [.inr 3, .inr 5, .inl r3.1, .inl r3.2.1, .inl f4, .inl f5, .inl f6, .inl f7, .inl f8, .inl f9, .inl f10, .inl r4.2.1, .inl r4.2.2.1, .inl f13, .inl r4.2.2.2.1, .inl f15]) (G := [r4.2.2.2.2.1, g1, g2, g3, g4, g5, g6, g7, r4.2.2.2.2.2, g9, g10]) (G' := [r4.2.2.2.2.1, g1, g2, g3, g4, g5, g6, g7, r4.2.2.2.2.2, g9, g10]) (ρ := [2, 15]) (φ := []) (ψ := [10]) [none, none, none, none, none, none, none, none, none, none, none, none, none, none, none, none] [none, none, none, none, none, none, none, none, none, none, some 0] zyw_Sea_goFrom zyw_Pilot_step zye_Pilot_step (by decide +kernel) (zt_Sea_goFrom hr16) trivial ⟨rfl, trivial⟩ rfl rfl rfl rfl rfl rfl rfl) zd153_132 zxt154 rfl (by decide) (by decide) rfl ?_
          refine zv_ist hB zd153_135 rfl rfl rfl ?_
          refine zv_ild hB zd153_137 rfl rfl ?_
          refine zv_con hB zd153_139 rfl ?_
          refine zv_cne hB zd153_140 rfl (fun hc17 => ?_) (fun hc17 => ?_)
          · rw [if_neg hc17] at h
            refine zv_ild hB zd153_147 rfl rfl ?_
            have hw := Option.some.inj h
            subst hw
            exact hret _ _ _ _ _ zd153_149 (by trivial) ⟨rfl, rfl, rfl⟩
          · rw [if_pos hc17] at h
            refine zv_ild hB zd153_143 rfl rfl ?_
            refine zv_goto hB zd153_144 rfl ?_
            have hw := Option.some.inj h
            subst hw
            exact hret _ _ _ _ _ zd153_149 (by trivial) ⟨rfl, rfl, rfl⟩
      · rw [if_neg (Int.not_lt.mpr hc12)] at h
        refine zv_ild hB zd153_99 rfl rfl ?_
        refine zv_con hB zd153_101 rfl ?_
        refine zv_cgt hB zd153_103 rfl (fun hc18 => ?_) (fun hc18 => ?_)
        · rw [if_pos hc18] at h
          refine zv_con hB zd153_110 rfl ?_
          refine zv_ist hB zd153_111 rfl rfl rfl ?_
          refine zv_goto hB zd153_113 rfl ?_
          refine zv_ald hB zd153_128 rfl rfl rfl ?_
          refine zv_ild hB zd153_129 rfl rfl ?_
          refine zv_ild hB zd153_130 rfl rfl ?_
          obtain ⟨r19, hr19, h⟩ := zi_bind h
          refine zv_cv hB (zv_emq (va2 := [.inr 2, .inl x3, .inl 2]) (F := [.inr 3, .inr 5, .inl r3.1, .inl r3.2.1, .inl f4, .inl f5, .inl f6, .inl f7, .inl f8, .inl f9, .inl f10, .inl r4.2.1, .inl r4.2.2.1, .inl f13, .inl r4.2.2.2.1, .inl f15]) (F' := [.inr 3, .inr 5, .inl r3.1, .inl r3.2.1, .inl f4, .inl f5, .inl f6, .inl f7, .inl f8, .inl f9, .inl f10, .inl r4.2.1, .inl r4.2.2.1, .inl f13, .inl r4.2.2.2.1, .inl f15]) (G := [r4.2.2.2.2.1, g1, g2, g3, g4, g5, g6, g7, r4.2.2.2.2.2, g9, g10]) (G' := [r4.2.2.2.2.1, g1, g2, g3, g4, g5, g6, g7, r4.2.2.2.2.2, g9, g10]) (ρ := [2, 15]) (φ := []) (ψ := [10]) [none, none, none, none, none, none, none, none, none, none, none, none, none, none, none, none] [none, none, none, none, none, none, none, none, none, none, some 0] zyw_Sea_goFrom zyw_Pilot_step zye_Pilot_step (by decide +kernel) (zt_Sea_goFrom hr19) trivial ⟨rfl, trivial⟩ rfl rfl rfl rfl rfl rfl rfl) zd153_132 zxt154 rfl (by decide) (by decide) rfl ?_
          refine zv_ist hB zd153_135 rfl rfl rfl ?_
          refine zv_ild hB zd153_137 rfl rfl ?_
          refine zv_con hB zd153_139 rfl ?_
          refine zv_cne hB zd153_140 rfl (fun hc20 => ?_) (fun hc20 => ?_)
          · rw [if_neg hc20] at h
            refine zv_ild hB zd153_147 rfl rfl ?_
            have hw := Option.some.inj h
            subst hw
            exact hret _ _ _ _ _ zd153_149 (by trivial) ⟨rfl, rfl, rfl⟩
          · rw [if_pos hc20] at h
            refine zv_ild hB zd153_143 rfl rfl ?_
            refine zv_goto hB zd153_144 rfl ?_
            have hw := Option.some.inj h
            subst hw
            exact hret _ _ _ _ _ zd153_149 (by trivial) ⟨rfl, rfl, rfl⟩
        · rw [if_neg (Int.not_lt.mpr hc18)] at h
          refine zv_con hB zd153_106 rfl ?_
          refine zv_goto hB zd153_107 rfl ?_
          refine zv_ist hB zd153_111 rfl rfl rfl ?_
          refine zv_goto hB zd153_113 rfl ?_
          refine zv_ald hB zd153_128 rfl rfl rfl ?_
          refine zv_ild hB zd153_129 rfl rfl ?_
          refine zv_ild hB zd153_130 rfl rfl ?_
          obtain ⟨r21, hr21, h⟩ := zi_bind h
          refine zv_cv hB (zv_emq (va2 := [.inr 2, .inl x3, .inl 1]) (F := [.inr 3, .inr 5, .inl r3.1, .inl r3.2.1, .inl f4, .inl f5, .inl f6, .inl f7, .inl f8, .inl f9, .inl f10, .inl r4.2.1, .inl r4.2.2.1, .inl f13, .inl r4.2.2.2.1, .inl f15]) (F' := [.inr 3, .inr 5, .inl r3.1, .inl r3.2.1, .inl f4, .inl f5, .inl f6, .inl f7, .inl f8, .inl f9, .inl f10, .inl r4.2.1, .inl r4.2.2.1, .inl f13, .inl r4.2.2.2.1, .inl f15]) (G := [r4.2.2.2.2.1, g1, g2, g3, g4, g5, g6, g7, r4.2.2.2.2.2, g9, g10]) (G' := [r4.2.2.2.2.1, g1, g2, g3, g4, g5, g6, g7, r4.2.2.2.2.2, g9, g10]) (ρ := [2, 15]) (φ := []) (ψ := [10]) [none, none, none, none, none, none, none, none, none, none, none, none, none, none, none, none] [none, none, none, none, none, none, none, none, none, none, some 0] zyw_Sea_goFrom zyw_Pilot_step zye_Pilot_step (by decide +kernel) (zt_Sea_goFrom hr21) trivial ⟨rfl, trivial⟩ rfl rfl rfl rfl rfl rfl rfl) zd153_132 zxt154 rfl (by decide) (by decide) rfl ?_
          refine zv_ist hB zd153_135 rfl rfl rfl ?_
          refine zv_ild hB zd153_137 rfl rfl ?_
          refine zv_con hB zd153_139 rfl ?_
          refine zv_cne hB zd153_140 rfl (fun hc22 => ?_) (fun hc22 => ?_)
          · rw [if_neg hc22] at h
            refine zv_ild hB zd153_147 rfl rfl ?_
            have hw := Option.some.inj h
            subst hw
            exact hret _ _ _ _ _ zd153_149 (by trivial) ⟨rfl, rfl, rfl⟩
          · rw [if_pos hc22] at h
            refine zv_ild hB zd153_143 rfl rfl ?_
            refine zv_goto hB zd153_144 rfl ?_
            have hw := Option.some.inj h
            subst hw
            exact hret _ _ _ _ _ zd153_149 (by trivial) ⟨rfl, rfl, rfl⟩
    · rw [if_pos hc10] at h
      refine zv_ild hB zd153_82 rfl rfl ?_
      refine zv_zne hB zd153_84 rfl (fun hc23 => ?_) (fun hc23 => ?_)
      · rw [if_neg hc23] at h
        refine zv_ild hB zd153_89 rfl rfl ?_
        refine zv_ild hB zd153_91 rfl rfl ?_
        obtain ⟨r24, hr24, h⟩ := zi_bind h
        refine zv_cs hB (zv_emq (va2 := [.inl (zi_w ((g2 x4) - r2))]) (F := [.inr 3, .inr 5, .inl r3.1, .inl r3.2.1, .inl f4, .inl f5, .inl f6, .inl f7, .inl f8, .inl f9, .inl f10, .inl r4.2.1, .inl r4.2.2.1, .inl f13, .inl r4.2.2.2.1, .inl f15]) (F' := [.inr 3, .inr 5, .inl r3.1, .inl r3.2.1, .inl f4, .inl f5, .inl f6, .inl f7, .inl f8, .inl f9, .inl f10, .inl r4.2.1, .inl r4.2.2.1, .inl f13, .inl r4.2.2.2.1, .inl f15]) (G := [r4.2.2.2.2.1, g1, g2, g3, g4, g5, g6, g7, r4.2.2.2.2.2, g9, g10]) (G' := [r4.2.2.2.2.1, g1, g2, g3, g4, g5, g6, g7, r4.2.2.2.2.2, g9, g10]) (ρ := []) (φ := []) (ψ := []) [none, none, none, none, none, none, none, none, none, none, none, none, none, none, none, none] [none, none, none, none, none, none, none, none, none, none, none] zyw_Math_abs zyw_Pilot_step zye_Pilot_step (by decide +kernel) (zt_Math_abs hr24) trivial trivial rfl rfl rfl rfl rfl rfl rfl) zd153_93 zxt91 rfl (by decide) (by decide) rfl ?_
        refine zv_clt hB zd153_96 rfl (fun hc25 => ?_) (fun hc25 => ?_)
        · rw [if_pos hc25] at h
          refine zv_ild hB zd153_116 rfl rfl ?_
          refine zv_zle hB zd153_118 rfl (fun hc26 => ?_) (fun hc26 => ?_)
          · rw [if_neg (Int.not_lt.mpr hc26)] at h
            refine zv_con hB zd153_125 rfl ?_
            refine zv_ist hB zd153_126 rfl rfl rfl ?_
            refine zv_ald hB zd153_128 rfl rfl rfl ?_
            refine zv_ild hB zd153_129 rfl rfl ?_
            refine zv_ild hB zd153_130 rfl rfl ?_
            obtain ⟨r27, hr27, h⟩ := zi_bind h
            refine zv_cv hB (zv_emq (va2 := [.inr 2, .inl x3, .inl 4]) (F := [.inr 3, .inr 5, .inl r3.1, .inl r3.2.1, .inl f4, .inl f5, .inl f6, .inl f7, .inl f8, .inl f9, .inl f10, .inl r4.2.1, .inl r4.2.2.1, .inl f13, .inl r4.2.2.2.1, .inl f15]) (F' := [.inr 3, .inr 5, .inl r3.1, .inl r3.2.1, .inl f4, .inl f5, .inl f6, .inl f7, .inl f8, .inl f9, .inl f10, .inl r4.2.1, .inl r4.2.2.1, .inl f13, .inl r4.2.2.2.1, .inl f15]) (G := [r4.2.2.2.2.1, g1, g2, g3, g4, g5, g6, g7, r4.2.2.2.2.2, g9, g10]) (G' := [r4.2.2.2.2.1, g1, g2, g3, g4, g5, g6, g7, r4.2.2.2.2.2, g9, g10]) (ρ := [2, 15]) (φ := []) (ψ := [10]) [none, none, none, none, none, none, none, none, none, none, none, none, none, none, none, none] [none, none, none, none, none, none, none, none, none, none, some 0] zyw_Sea_goFrom zyw_Pilot_step zye_Pilot_step (by decide +kernel) (zt_Sea_goFrom hr27) trivial ⟨rfl, trivial⟩ rfl rfl rfl rfl rfl rfl rfl) zd153_132 zxt154 rfl (by decide) (by decide) rfl ?_
            refine zv_ist hB zd153_135 rfl rfl rfl ?_
            refine zv_ild hB zd153_137 rfl rfl ?_
            refine zv_con hB zd153_139 rfl ?_
            refine zv_cne hB zd153_140 rfl (fun hc28 => ?_) (fun hc28 => ?_)
            · rw [if_neg hc28] at h
              refine zv_ild hB zd153_147 rfl rfl ?_
              have hw := Option.some.inj h
              subst hw
              exact hret _ _ _ _ _ zd153_149 (by trivial) ⟨rfl, rfl, rfl⟩
            · rw [if_pos hc28] at h
              refine zv_ild hB zd153_143 rfl rfl ?_
              refine zv_goto hB zd153_144 rfl ?_
              have hw := Option.some.inj h
              subst hw
              exact hret _ _ _ _ _ zd153_149 (by trivial) ⟨rfl, rfl, rfl⟩
          · rw [if_pos hc26] at h
            refine zv_con hB zd153_121 rfl ?_
            refine zv_goto hB zd153_122 rfl ?_
            refine zv_ist hB zd153_126 rfl rfl rfl ?_
            refine zv_ald hB zd153_128 rfl rfl rfl ?_
            refine zv_ild hB zd153_129 rfl rfl ?_
            refine zv_ild hB zd153_130 rfl rfl ?_
            obtain ⟨r29, hr29, h⟩ := zi_bind h
            refine zv_cv hB (zv_emq (va2 := [.inr 2, .inl x3, .inl 3]) (F := [.inr 3, .inr 5, .inl r3.1, .inl r3.2.1, .inl f4, .inl f5, .inl f6, .inl f7, .inl f8, .inl f9, .inl f10, .inl r4.2.1, .inl r4.2.2.1, .inl f13, .inl r4.2.2.2.1, .inl f15]) (F' := [.inr 3, .inr 5, .inl r3.1, .inl r3.2.1, .inl f4, .inl f5, .inl f6, .inl f7, .inl f8, .inl f9, .inl f10, .inl r4.2.1, .inl r4.2.2.1, .inl f13, .inl r4.2.2.2.1, .inl f15]) (G := [r4.2.2.2.2.1, g1, g2, g3, g4, g5, g6, g7, r4.2.2.2.2.2, g9, g10]) (G' := [r4.2.2.2.2.1, g1, g2, g3, g4, g5, g6, g7, r4.2.2.2.2.2, g9, g10]) (ρ := [2, 15]) (φ := []) (ψ := [10]) [none, none, none, none, none, none, none, none, none, none, none, none, none, none, none, none] [none, none, none, none, none, none, none, none, none, none, some 0] zyw_Sea_goFrom zyw_Pilot_step zye_Pilot_step (by decide +kernel) (zt_Sea_goFrom hr29) trivial ⟨rfl, trivial⟩ rfl rfl rfl rfl rfl rfl rfl) zd153_132 zxt154 rfl (by decide) (by decide) rfl ?_
            refine zv_ist hB zd153_135 rfl rfl rfl ?_
            refine zv_ild hB zd153_137 rfl rfl ?_
            refine zv_con hB zd153_139 rfl ?_
            refine zv_cne hB zd153_140 rfl (fun hc30 => ?_) (fun hc30 => ?_)
            · rw [if_neg hc30] at h
              refine zv_ild hB zd153_147 rfl rfl ?_
              have hw := Option.some.inj h
              subst hw
              exact hret _ _ _ _ _ zd153_149 (by trivial) ⟨rfl, rfl, rfl⟩
            · rw [if_pos hc30] at h
              refine zv_ild hB zd153_143 rfl rfl ?_
              refine zv_goto hB zd153_144 rfl ?_
              have hw := Option.some.inj h
              subst hw
              exact hret _ _ _ _ _ zd153_149 (by trivial) ⟨rfl, rfl, rfl⟩
        · rw [if_neg (Int.not_lt.mpr hc25)] at h
          refine zv_ild hB zd153_99 rfl rfl ?_
          refine zv_con hB zd153_101 rfl ?_
          refine zv_cgt hB zd153_103 rfl (fun hc31 => ?_) (fun hc31 => ?_)
          · rw [if_pos hc31] at h
            refine zv_con hB zd153_110 rfl ?_
            refine zv_ist hB zd153_111 rfl rfl rfl ?_
            refine zv_goto hB zd153_113 rfl ?_
            refine zv_ald hB zd153_128 rfl rfl rfl ?_
            refine zv_ild hB zd153_129 rfl rfl ?_
            refine zv_ild hB zd153_130 rfl rfl ?_
            obtain ⟨r32, hr32, h⟩ := zi_bind h
            refine zv_cv hB (zv_emq (va2 := [.inr 2, .inl x3, .inl 2]) (F := [.inr 3, .inr 5, .inl r3.1, .inl r3.2.1, .inl f4, .inl f5, .inl f6, .inl f7, .inl f8, .inl f9, .inl f10, .inl r4.2.1, .inl r4.2.2.1, .inl f13, .inl r4.2.2.2.1, .inl f15]) (F' := [.inr 3, .inr 5, .inl r3.1, .inl r3.2.1, .inl f4, .inl f5, .inl f6, .inl f7, .inl f8, .inl f9, .inl f10, .inl r4.2.1, .inl r4.2.2.1, .inl f13, .inl r4.2.2.2.1, .inl f15]) (G := [r4.2.2.2.2.1, g1, g2, g3, g4, g5, g6, g7, r4.2.2.2.2.2, g9, g10]) (G' := [r4.2.2.2.2.1, g1, g2, g3, g4, g5, g6, g7, r4.2.2.2.2.2, g9, g10]) (ρ := [2, 15]) (φ := []) (ψ := [10]) [none, none, none, none, none, none, none, none, none, none, none, none, none, none, none, none] [none, none, none, none, none, none, none, none, none, none, some 0] zyw_Sea_goFrom zyw_Pilot_step zye_Pilot_step (by decide +kernel) (zt_Sea_goFrom hr32) trivial ⟨rfl, trivial⟩ rfl rfl rfl rfl rfl rfl rfl) zd153_132 zxt154 rfl (by decide) (by decide) rfl ?_
            refine zv_ist hB zd153_135 rfl rfl rfl ?_
            refine zv_ild hB zd153_137 rfl rfl ?_
            refine zv_con hB zd153_139 rfl ?_
            refine zv_cne hB zd153_140 rfl (fun hc33 => ?_) (fun hc33 => ?_)
            · rw [if_neg hc33] at h
              refine zv_ild hB zd153_147 rfl rfl ?_
              have hw := Option.some.inj h
              subst hw
              exact hret _ _ _ _ _ zd153_149 (by trivial) ⟨rfl, rfl, rfl⟩
            · rw [if_pos hc33] at h
              refine zv_ild hB zd153_143 rfl rfl ?_
              refine zv_goto hB zd153_144 rfl ?_
              have hw := Option.some.inj h
              subst hw
              exact hret _ _ _ _ _ zd153_149 (by trivial) ⟨rfl, rfl, rfl⟩
          · rw [if_neg (Int.not_lt.mpr hc31)] at h
            refine zv_con hB zd153_106 rfl ?_
            refine zv_goto hB zd153_107 rfl ?_
            refine zv_ist hB zd153_111 rfl rfl rfl ?_
            refine zv_goto hB zd153_113 rfl ?_
            refine zv_ald hB zd153_128 rfl rfl rfl ?_
            refine zv_ild hB zd153_129 rfl rfl ?_
            refine zv_ild hB zd153_130 rfl rfl ?_
            obtain ⟨r34, hr34, h⟩ := zi_bind h
            refine zv_cv hB (zv_emq (va2 := [.inr 2, .inl x3, .inl 1]) (F := [.inr 3, .inr 5, .inl r3.1, .inl r3.2.1, .inl f4, .inl f5, .inl f6, .inl f7, .inl f8, .inl f9, .inl f10, .inl r4.2.1, .inl r4.2.2.1, .inl f13, .inl r4.2.2.2.1, .inl f15]) (F' := [.inr 3, .inr 5, .inl r3.1, .inl r3.2.1, .inl f4, .inl f5, .inl f6, .inl f7, .inl f8, .inl f9, .inl f10, .inl r4.2.1, .inl r4.2.2.1, .inl f13, .inl r4.2.2.2.1, .inl f15]) (G := [r4.2.2.2.2.1, g1, g2, g3, g4, g5, g6, g7, r4.2.2.2.2.2, g9, g10]) (G' := [r4.2.2.2.2.1, g1, g2, g3, g4, g5, g6, g7, r4.2.2.2.2.2, g9, g10]) (ρ := [2, 15]) (φ := []) (ψ := [10]) [none, none, none, none, none, none, none, none, none, none, none, none, none, none, none, none] [none, none, none, none, none, none, none, none, none, none, some 0] zyw_Sea_goFrom zyw_Pilot_step zye_Pilot_step (by decide +kernel) (zt_Sea_goFrom hr34) trivial ⟨rfl, trivial⟩ rfl rfl rfl rfl rfl rfl rfl) zd153_132 zxt154 rfl (by decide) (by decide) rfl ?_
            refine zv_ist hB zd153_135 rfl rfl rfl ?_
            refine zv_ild hB zd153_137 rfl rfl ?_
            refine zv_con hB zd153_139 rfl ?_
            refine zv_cne hB zd153_140 rfl (fun hc35 => ?_) (fun hc35 => ?_)
            · rw [if_neg hc35] at h
              refine zv_ild hB zd153_147 rfl rfl ?_
              have hw := Option.some.inj h
              subst hw
              exact hret _ _ _ _ _ zd153_149 (by trivial) ⟨rfl, rfl, rfl⟩
            · rw [if_pos hc35] at h
              refine zv_ild hB zd153_143 rfl rfl ?_
              refine zv_goto hB zd153_144 rfl ?_
              have hw := Option.some.inj h
              subst hw
              exact hret _ _ _ _ _ zd153_149 (by trivial) ⟨rfl, rfl, rfl⟩
      · rw [if_pos hc23] at h
        refine zv_ild hB zd153_87 rfl rfl ?_
        have hw := Option.some.inj h
        subst hw
        exact hret _ _ _ _ _ zd153_88 (by trivial) ⟨rfl, rfl, rfl⟩
  · rw [if_pos hc5] at h
    refine zv_ild hB zd153_29 rfl rfl ?_
    have hw := Option.some.inj h
    subst hw
    exact hret _ _ _ _ _ zd153_30 (by trivial) ⟨rfl, rfl, rfl⟩
/-! Sky_columnNextNight (I)I -/
-- names: 0 Sky('arg', 0), 1 (0, 24)(0, 1, 1), 2 (0, 24)(0, 1, 4)
-- fields: ; arrays: g0 = 1, g1 = 2; out: [('ret', None)]
abbrev zy_Sky_columnNextNight : zNL := (3, [(0, 1)], [], [(0, 1, 1, 1), (0, 1, 4, 2)], [(1, 0, 24, 0), (2, 0, 24, 1)])
theorem zyw_Sky_columnNextNight : zv_wf zy_Sky_columnNextNight = true := by decide +kernel
theorem zye_Sky_columnNextNight : zv_ek2 zy_Sky_columnNextNight = true := by decide +kernel
def zf_Sky_columnNextNight (x1 : Int) (g0 : (Int → Int)) (g1 : (Int → Int)) : Option (Int) := cond (zi_ix x1 24) ((zf_Math_floorMod (zi_w ((g0 x1) + (g1 x1))) 24).bind fun r2 => (some r2)) none
theorem zd157_0 : decode zxm157.2.1 0 = .ok (.aload_n 0, 1) := by decide +kernel
theorem zd157_1 : decode zxm157.2.1 1 = .ok (.getfield 15, 3) := by decide +kernel
theorem zd157_4 : decode zxm157.2.1 4 = .ok (.iload_n 1, 1) := by decide +kernel
theorem zd157_5 : decode zxm157.2.1 5 = .ok (.iaload, 1) := by decide +kernel
theorem zd157_6 : decode zxm157.2.1 6 = .ok (.aload_n 0, 1) := by decide +kernel
theorem zd157_7 : decode zxm157.2.1 7 = .ok (.getfield 25, 3) := by decide +kernel
theorem zd157_10 : decode zxm157.2.1 10 = .ok (.iload_n 1, 1) := by decide +kernel
theorem zd157_11 : decode zxm157.2.1 11 = .ok (.iaload, 1) := by decide +kernel
theorem zd157_12 : decode zxm157.2.1 12 = .ok (.iadd, 1) := by decide +kernel
theorem zd157_13 : decode zxm157.2.1 13 = .ok (.bipush 24, 2) := by decide +kernel
theorem zd157_15 : decode zxm157.2.1 15 = .ok (.invokestatic 49, 3) := by decide +kernel
theorem zd157_18 : decode zxm157.2.1 18 = .ok (.ireturn, 1) := by decide +kernel
theorem zt_Sky_columnNextNight {x1 : Int} {g0 : (Int → Int)} {g1 : (Int → Int)} {o : Int} (h : zf_Sky_columnNextNight x1 g0 g1 = some o) : zv_Fn z_TB z_cl z_KX zy_Sky_columnNextNight zxm157 (1, 60) [.inr 0, .inl x1] [] [g0, g1] (some o) [] [g0, g1] := zv_meth (K := (z_KF8, z_KC8, z_KL8, z_KT8, [], [], [], none)) (FT := z_FT) (MT := z_MT) (n := 2) zxp157 (z_ks8 _ (fun _ h => List.mem_cons_of_mem _ h) _ _ _ _ (fun j r h _ => by cases h)) (fun _ _ => zs_KX_p) zyw_Sky_columnNextNight (fun va F G h => by obtain ⟨rfl, _⟩ := h; rfl) (fun va F G h => by obtain ⟨rfl, _⟩ := h; rfl) rfl fun good va F G hB hret hvret hP => by
  obtain ⟨rfl, rfl, rfl⟩ := hP
  unfold zf_Sky_columnNextNight at h
  refine zv_ald hB zd157_0 rfl rfl rfl ?_
  refine zv_getr hB zd157_1 rfl ?_
  refine zv_ild hB zd157_4 rfl rfl ?_
  obtain ⟨c1, h⟩ := zi_if h
  refine zv_iald hB zd157_5 rfl rfl (zi_ix_ok c1).1 (zi_ix_ok c1).2 (fun _ _ => ?_)
  refine zv_ald hB zd157_6 rfl rfl rfl ?_
  refine zv_getr hB zd157_7 rfl ?_
  refine zv_ild hB zd157_10 rfl rfl ?_
  refine zv_iald hB zd157_11 rfl rfl (zi_ix_ok c1).1 (zi_ix_ok c1).2 (fun _ _ => ?_)
  refine zv_addw hB zd157_12 ?_
  refine zv_con hB zd157_13 rfl ?_
  obtain ⟨r2, hr2, h⟩ := zi_bind h
  refine zv_cs hB (zv_emq (va2 := [.inl (zi_w ((g0 x1) + (g1 x1))), .inl 24]) (F := []) (F' := []) (G := [g0, g1]) (G' := [g0, g1]) (ρ := []) (φ := []) (ψ := []) [] [none, none] zyw_Math_floorMod zyw_Sky_columnNextNight zye_Sky_columnNextNight (by decide +kernel) (zt_Math_floorMod hr2) trivial trivial rfl rfl rfl rfl rfl rfl rfl) zd157_15 zxt129 rfl (by decide) (by decide) rfl ?_
  have hw := Option.some.inj h
  subst hw
  exact hret _ _ _ _ _ zd157_18 (by trivial) ⟨rfl, rfl, rfl⟩
/-! Sky_rowNextNight (I)I -/
-- names: 0 Sky('arg', 0), 1 (0, 24)(0, 1, 2), 2 (0, 24)(0, 1, 5)
-- fields: ; arrays: g0 = 1, g1 = 2; out: [('ret', None)]
abbrev zy_Sky_rowNextNight : zNL := (3, [(0, 1)], [], [(0, 1, 2, 1), (0, 1, 5, 2)], [(1, 0, 24, 0), (2, 0, 24, 1)])
theorem zyw_Sky_rowNextNight : zv_wf zy_Sky_rowNextNight = true := by decide +kernel
theorem zye_Sky_rowNextNight : zv_ek2 zy_Sky_rowNextNight = true := by decide +kernel
def zf_Sky_rowNextNight (x1 : Int) (g0 : (Int → Int)) (g1 : (Int → Int)) : Option (Int) := cond (zi_ix x1 24) ((zf_Math_min 11 (zi_w ((g0 x1) + (g1 x1)))).bind fun r2 => ((zf_Math_max 0 r2).bind fun r3 => (some r3))) none
theorem zd158_0 : decode zxm158.2.1 0 = .ok (.iconst 0, 1) := by decide +kernel
theorem zd158_1 : decode zxm158.2.1 1 = .ok (.bipush 11, 2) := by decide +kernel
theorem zd158_3 : decode zxm158.2.1 3 = .ok (.aload_n 0, 1) := by decide +kernel
theorem zd158_4 : decode zxm158.2.1 4 = .ok (.getfield 19, 3) := by decide +kernel
theorem zd158_7 : decode zxm158.2.1 7 = .ok (.iload_n 1, 1) := by decide +kernel
theorem zd158_8 : decode zxm158.2.1 8 = .ok (.iaload, 1) := by decide +kernel
theorem zd158_9 : decode zxm158.2.1 9 = .ok (.aload_n 0, 1) := by decide +kernel
theorem zd158_10 : decode zxm158.2.1 10 = .ok (.getfield 28, 3) := by decide +kernel
theorem zd158_13 : decode zxm158.2.1 13 = .ok (.iload_n 1, 1) := by decide +kernel
theorem zd158_14 : decode zxm158.2.1 14 = .ok (.iaload, 1) := by decide +kernel
theorem zd158_15 : decode zxm158.2.1 15 = .ok (.iadd, 1) := by decide +kernel
theorem zd158_16 : decode zxm158.2.1 16 = .ok (.invokestatic 55, 3) := by decide +kernel
theorem zd158_19 : decode zxm158.2.1 19 = .ok (.invokestatic 58, 3) := by decide +kernel
theorem zd158_22 : decode zxm158.2.1 22 = .ok (.ireturn, 1) := by decide +kernel
theorem zt_Sky_rowNextNight {x1 : Int} {g0 : (Int → Int)} {g1 : (Int → Int)} {o : Int} (h : zf_Sky_rowNextNight x1 g0 g1 = some o) : zv_Fn z_TB z_cl z_KX zy_Sky_rowNextNight zxm158 (1, 60) [.inr 0, .inl x1] [] [g0, g1] (some o) [] [g0, g1] := zv_meth (K := (z_KF8, z_KC8, z_KL8, z_KT8, [], [], [], none)) (FT := z_FT) (MT := z_MT) (n := 2) zxp158 (z_ks8 _ (fun _ h => List.mem_cons_of_mem _ h) _ _ _ _ (fun j r h _ => by cases h)) (fun _ _ => zs_KX_p) zyw_Sky_rowNextNight (fun va F G h => by obtain ⟨rfl, _⟩ := h; rfl) (fun va F G h => by obtain ⟨rfl, _⟩ := h; rfl) rfl fun good va F G hB hret hvret hP => by
  obtain ⟨rfl, rfl, rfl⟩ := hP
  unfold zf_Sky_rowNextNight at h
  refine zv_con hB zd158_0 rfl ?_
  refine zv_con hB zd158_1 rfl ?_
  refine zv_ald hB zd158_3 rfl rfl rfl ?_
  refine zv_getr hB zd158_4 rfl ?_
  refine zv_ild hB zd158_7 rfl rfl ?_
  obtain ⟨c1, h⟩ := zi_if h
  refine zv_iald hB zd158_8 rfl rfl (zi_ix_ok c1).1 (zi_ix_ok c1).2 (fun _ _ => ?_)
  refine zv_ald hB zd158_9 rfl rfl rfl ?_
  refine zv_getr hB zd158_10 rfl ?_
  refine zv_ild hB zd158_13 rfl rfl ?_
  refine zv_iald hB zd158_14 rfl rfl (zi_ix_ok c1).1 (zi_ix_ok c1).2 (fun _ _ => ?_)
  refine zv_addw hB zd158_15 ?_
  obtain ⟨r2, hr2, h⟩ := zi_bind h
  refine zv_cs hB (zv_emq (va2 := [.inl 11, .inl (zi_w ((g0 x1) + (g1 x1)))]) (F := []) (F' := []) (G := [g0, g1]) (G' := [g0, g1]) (ρ := []) (φ := []) (ψ := []) [] [none, none] zyw_Math_min zyw_Sky_rowNextNight zye_Sky_rowNextNight (by decide +kernel) (zt_Math_min hr2) trivial trivial rfl rfl rfl rfl rfl rfl rfl) zd158_16 zxt37 rfl (by decide) (by decide) rfl ?_
  obtain ⟨r3, hr3, h⟩ := zi_bind h
  refine zv_cs hB (zv_emq (va2 := [.inl 0, .inl r2]) (F := []) (F' := []) (G := [g0, g1]) (G' := [g0, g1]) (ρ := []) (φ := []) (ψ := []) [] [none, none] zyw_Math_max zyw_Sky_rowNextNight zye_Sky_rowNextNight (by decide +kernel) (zt_Math_max hr3) trivial trivial rfl rfl rfl rfl rfl rfl rfl) zd158_19 zxt55 rfl (by decide) (by decide) rfl ?_
  have hw := Option.some.inj h
  subst hw
  exact hret _ _ _ _ _ zd158_22 (by trivial) ⟨rfl, rfl, rfl⟩
/-! Sky_beginNight ()V -/
-- names: 0 Sky('arg', 0), 1 (0, 24)(0, 1, 1), 2 (0, 24)(0, 1, 4), 3 (0, 24)(0, 1, 2), 4 (0, 24)(0, 1, 5)
-- fields: f0 = 0.night_; arrays: g0 = 1, g1 = 2, g2 = 3, g3 = 4; out: [('f', 0), ('g', 0), ('g', 2)]
abbrev zy_Sky_beginNight : zNL := (5, [(0, 1)], [(0, 1, 7, 0)], [(0, 1, 1, 1), (0, 1, 4, 2), (0, 1, 2, 3), (0, 1, 5, 4)], [(1, 0, 24, 0), (2, 0, 24, 1), (3, 0, 24, 2), (4, 0, 24, 3)])
theorem zyw_Sky_beginNight : zv_wf zy_Sky_beginNight = true := by decide +kernel
theorem zye_Sky_beginNight : zv_ek2 zy_Sky_beginNight = true := by decide +kernel
def zf_Sky_beginNight_l0_b (g1 : (Int → Int)) (g3 : (Int → Int)) (rec : Int → (Int → Int) → (Int → Int) → Option ((Int → Int) × (Int → Int))) (x1 : Int) (g0 : (Int → Int)) (g2 : (Int → Int)) : Option ((Int → Int) × (Int → Int)) := if x1 < 24 then ((zf_Sky_columnNextNight x1 g0 g1).bind fun r2 => (cond (zi_ix x1 24) ((zf_Sky_rowNextNight x1 g2 g3).bind fun r4 => (rec (zi_w (x1 + 1)) (zv_up g0 x1 r2) (zv_up g2 x1 r4))) none)) else (some (g0, g2))
def zf_Sky_beginNight_l0 (g1 : (Int → Int)) (g3 : (Int → Int)) : Nat → Int → (Int → Int) → (Int → Int) → Option ((Int → Int) × (Int → Int))
  | 0, _, _, _ => none
  | n + 1, x1, g0, g2 => zf_Sky_beginNight_l0_b g1 g3 (zf_Sky_beginNight_l0 g1 g3 n) x1 g0 g2
def zf_Sky_beginNight (f0 : Int) (g0 : (Int → Int)) (g1 : (Int → Int)) (g2 : (Int → Int)) (g3 : (Int → Int)) : Option (Int × (Int → Int) × (Int → Int)) := (zf_Sky_beginNight_l0 g1 g3 zi_fu 0 g0 g2).bind fun q5 => (some ((zi_w (f0 + 1)), q5.1, q5.2))
theorem zd156_0 : decode zxm156.2.1 0 = .ok (.aload_n 0, 1) := by decide +kernel
theorem zd156_1 : decode zxm156.2.1 1 = .ok (.dup, 1) := by decide +kernel
theorem zd156_2 : decode zxm156.2.1 2 = .ok (.getfield 34, 3) := by decide +kernel
theorem zd156_5 : decode zxm156.2.1 5 = .ok (.iconst 1, 1) := by decide +kernel
theorem zd156_6 : decode zxm156.2.1 6 = .ok (.iadd, 1) := by decide +kernel
theorem zd156_7 : decode zxm156.2.1 7 = .ok (.putfield 34, 3) := by decide +kernel
theorem zd156_10 : decode zxm156.2.1 10 = .ok (.iconst 0, 1) := by decide +kernel
theorem zd156_11 : decode zxm156.2.1 11 = .ok (.istore_n 1, 1) := by decide +kernel
theorem zd156_12 : decode zxm156.2.1 12 = .ok (.iload_n 1, 1) := by decide +kernel
theorem zd156_13 : decode zxm156.2.1 13 = .ok (.bipush 24, 2) := by decide +kernel
theorem zd156_15 : decode zxm156.2.1 15 = .ok (.if_icmp .ge 31, 3) := by decide +kernel
theorem zd156_18 : decode zxm156.2.1 18 = .ok (.aload_n 0, 1) := by decide +kernel
theorem zd156_19 : decode zxm156.2.1 19 = .ok (.getfield 15, 3) := by decide +kernel
theorem zd156_22 : decode zxm156.2.1 22 = .ok (.iload_n 1, 1) := by decide +kernel
theorem zd156_23 : decode zxm156.2.1 23 = .ok (.aload_n 0, 1) := by decide +kernel
theorem zd156_24 : decode zxm156.2.1 24 = .ok (.iload_n 1, 1) := by decide +kernel
theorem zd156_25 : decode zxm156.2.1 25 = .ok (.invokevirtual 61, 3) := by decide +kernel
theorem zd156_28 : decode zxm156.2.1 28 = .ok (.iastore, 1) := by decide +kernel
theorem zd156_29 : decode zxm156.2.1 29 = .ok (.aload_n 0, 1) := by decide +kernel
theorem zd156_30 : decode zxm156.2.1 30 = .ok (.getfield 19, 3) := by decide +kernel
theorem zd156_33 : decode zxm156.2.1 33 = .ok (.iload_n 1, 1) := by decide +kernel
theorem zd156_34 : decode zxm156.2.1 34 = .ok (.aload_n 0, 1) := by decide +kernel
theorem zd156_35 : decode zxm156.2.1 35 = .ok (.iload_n 1, 1) := by decide +kernel
theorem zd156_36 : decode zxm156.2.1 36 = .ok (.invokevirtual 65, 3) := by decide +kernel
theorem zd156_39 : decode zxm156.2.1 39 = .ok (.iastore, 1) := by decide +kernel
theorem zd156_40 : decode zxm156.2.1 40 = .ok (.iinc 1 1, 3) := by decide +kernel
theorem zd156_43 : decode zxm156.2.1 43 = .ok (.goto (-31), 3) := by decide +kernel
theorem zd156_46 : decode zxm156.2.1 46 = .ok (.return_, 1) := by decide +kernel
theorem zt_Sky_beginNight {f0 : Int} {g0 : (Int → Int)} {g1 : (Int → Int)} {g2 : (Int → Int)} {g3 : (Int → Int)} {o : Int × (Int → Int) × (Int → Int)} (h : zf_Sky_beginNight f0 g0 g1 g2 g3 = some o) : zv_Fn z_TB z_cl z_KX zy_Sky_beginNight zxm156 (2, 120) [.inr 0] [.inl f0] [g0, g1, g2, g3] none [.inl o.1] [o.2.1, g1, o.2.2, g3] := zv_meth (K := (z_KF8, z_KC8, z_KL8, z_KT8, [], [], [], none)) (FT := z_FT) (MT := z_MT) (n := 1) zxp156 (z_ks8 _ (fun _ h => List.mem_cons_of_mem _ h) _ _ _ _ (fun j r h _ => by cases h)) (fun _ _ => zs_KX_p) zyw_Sky_beginNight (fun va F G h => by obtain ⟨rfl, _⟩ := h; rfl) (fun va F G h => by obtain ⟨rfl, _⟩ := h; rfl) rfl fun good va F G hB hret hvret hP => by
  obtain ⟨rfl, rfl, rfl⟩ := hP
  have l0 : ∀ (n : Nat) (x1 : Int) (f0 : Int) (g0 : (Int → Int)) (g2 : (Int → Int)) (q : (Int → Int) × (Int → Int)), zf_Sky_beginNight_l0 g1 g3 n x1 g0 g2 = some q → (good 46 [.inr 1000, .inr 1000] [] [.inl f0] [q.1, g1, q.2, g3]) → good 12 [.inr 0, .inl x1] [] [.inl f0] [g0, g1, g2, g3] := by
    intro n
    induction n with
    | zero => intro x1 f0 g0 g2 q h; exact absurd (show none = some q from h) (fun h => by cases h)
    | succ n ih =>
      intro x1 f0 g0 g2 q h hK
      replace h : zf_Sky_beginNight_l0_b g1 g3 (zf_Sky_beginNight_l0 g1 g3 n) x1 g0 g2 = some q := h
      unfold zf_Sky_beginNight_l0_b at h
      refine zv_ild hB zd156_12 rfl rfl ?_
      refine zv_con hB zd156_13 rfl ?_
      refine zv_cge hB zd156_15 rfl (fun hc1 => ?_) (fun hc1 => ?_)
      · rw [if_neg (Int.not_lt.mpr hc1)] at h
        have hq := Option.some.inj h
        subst hq
        refine zv_wk hB (L' := [.inr 1000, .inr 1000]) (F' := [.inl f0]) ⟨fun (h : zv_is (.inr 1000)) => (Nat.lt_irrefl 1000 h).elim, fun (h : zv_is (.inr 1000)) => (Nat.lt_irrefl 1000 h).elim, trivial⟩ ⟨fun _ => rfl, trivial⟩ ?_
        exact hK
      · rw [if_pos hc1] at h
        refine zv_ald hB zd156_18 rfl rfl rfl ?_
        refine zv_getr hB zd156_19 rfl ?_
        refine zv_ild hB zd156_22 rfl rfl ?_
        refine zv_ald hB zd156_23 rfl rfl rfl ?_
        refine zv_ild hB zd156_24 rfl rfl ?_
        obtain ⟨r2, hr2, h⟩ := zi_bind h
        refine zv_cv hB (zv_emq (va2 := [.inr 0, .inl x1]) (F := [.inl f0]) (F' := [.inl f0]) (G := [g0, g1, g2, g3]) (G' := [g0, g1, g2, g3]) (ρ := [0, 1, 2]) (φ := []) (ψ := [0, 1]) [none] [some 0, some 1, none, none] zyw_Sky_columnNextNight zyw_Sky_beginNight zye_Sky_beginNight (by decide +kernel) (zt_Sky_columnNextNight hr2) trivial ⟨rfl, rfl, trivial⟩ rfl rfl rfl rfl rfl rfl rfl) zd156_25 zxt157 rfl (by decide) (by decide) rfl ?_
        obtain ⟨c3, h⟩ := zi_if h
        refine zv_iast hB zd156_28 rfl rfl (zi_ix_ok c3).1 (zi_ix_ok c3).2 ?_
        refine zv_ald hB zd156_29 rfl rfl rfl ?_
        refine zv_getr hB zd156_30 rfl ?_
        refine zv_ild hB zd156_33 rfl rfl ?_
        refine zv_ald hB zd156_34 rfl rfl rfl ?_
        refine zv_ild hB zd156_35 rfl rfl ?_
        obtain ⟨r4, hr4, h⟩ := zi_bind h
        refine zv_cv hB (zv_emq (va2 := [.inr 0, .inl x1]) (F := [.inl f0]) (F' := [.inl f0]) (G := [(zv_up g0 x1 r2), g1, g2, g3]) (G' := [(zv_up g0 x1 r2), g1, g2, g3]) (ρ := [0, 3, 4]) (φ := []) (ψ := [2, 3]) [none] [none, none, some 0, some 1] zyw_Sky_rowNextNight zyw_Sky_beginNight zye_Sky_beginNight (by decide +kernel) (zt_Sky_rowNextNight hr4) trivial ⟨rfl, rfl, trivial⟩ rfl rfl rfl rfl rfl rfl rfl) zd156_36 zxt158 rfl (by decide) (by decide) rfl ?_
        refine zv_iast hB zd156_39 rfl rfl (zi_ix_ok c3).1 (zi_ix_ok c3).2 ?_
        refine zv_iincw hB zd156_40 rfl rfl ?_
        refine zv_goto hB zd156_43 rfl ?_
        exact ih _ _ _ _ q h hK
  unfold zf_Sky_beginNight at h
  refine zv_ald hB zd156_0 rfl rfl rfl ?_
  refine zv_dup hB zd156_1 rfl ?_
  refine zv_getf hB zd156_2 rfl rfl (fun _ _ => ?_)
  refine zv_con hB zd156_5 rfl ?_
  refine zv_addw hB zd156_6 ?_
  refine zv_putf hB zd156_7 rfl rfl (fun h => by cases h) rfl ?_
  refine zv_con hB zd156_10 rfl ?_
  refine zv_ist hB zd156_11 rfl rfl rfl ?_
  obtain ⟨q5, hq5, h⟩ := zi_bind h
  refine l0 _ _ _ _ _ q5 hq5 ?_
  show good 46 [.inr 1000, .inr 1000] [] [.inl (zi_w (f0 + 1))] [q5.1, g1, q5.2, g3]
  have hw := Option.some.inj h
  subst hw
  exact hvret _ _ _ _ zd156_46 trivial ⟨rfl, rfl, rfl⟩
/-! Sky_passHour ()V -/
-- names: 0 Sky('arg', 0), 1 (0, 24)(0, 1, 1), 2 (0, 24)(0, 1, 4), 3 (0, 24)(0, 1, 2), 4 (0, 24)(0, 1, 5)
-- fields: f0 = 0.hour_, f1 = 0.night_; arrays: g0 = 1, g1 = 2, g2 = 3, g3 = 4; out: [('f', 0), ('f', 1), ('g', 0), ('g', 2)]
abbrev zy_Sky_passHour : zNL := (5, [(0, 1)], [(0, 1, 6, 0), (0, 1, 7, 1)], [(0, 1, 1, 1), (0, 1, 4, 2), (0, 1, 2, 3), (0, 1, 5, 4)], [(1, 0, 24, 0), (2, 0, 24, 1), (3, 0, 24, 2), (4, 0, 24, 3)])
theorem zyw_Sky_passHour : zv_wf zy_Sky_passHour = true := by decide +kernel
theorem zye_Sky_passHour : zv_ek2 zy_Sky_passHour = true := by decide +kernel
def zf_Sky_passHour (f0 : Int) (f1 : Int) (g0 : (Int → Int)) (g1 : (Int → Int)) (g2 : (Int → Int)) (g3 : (Int → Int)) : Option (Int × Int × (Int → Int) × (Int → Int)) := if (zi_w (f0 + 1)) = 24 then ((zf_Sky_beginNight f1 g0 g1 g2 g3).bind fun r2 => (some (0, r2.1, r2.2.1, r2.2.2))) else (some ((zi_w (f0 + 1)), f1, g0, g2))
theorem zd155_0 : decode zxm155.2.1 0 = .ok (.aload_n 0, 1) := by decide +kernel
theorem zd155_1 : decode zxm155.2.1 1 = .ok (.dup, 1) := by decide +kernel
theorem zd155_2 : decode zxm155.2.1 2 = .ok (.getfield 31, 3) := by decide +kernel
theorem zd155_5 : decode zxm155.2.1 5 = .ok (.iconst 1, 1) := by decide +kernel
theorem zd155_6 : decode zxm155.2.1 6 = .ok (.iadd, 1) := by decide +kernel
theorem zd155_7 : decode zxm155.2.1 7 = .ok (.putfield 31, 3) := by decide +kernel
theorem zd155_10 : decode zxm155.2.1 10 = .ok (.aload_n 0, 1) := by decide +kernel
theorem zd155_11 : decode zxm155.2.1 11 = .ok (.getfield 31, 3) := by decide +kernel
theorem zd155_14 : decode zxm155.2.1 14 = .ok (.bipush 24, 2) := by decide +kernel
theorem zd155_16 : decode zxm155.2.1 16 = .ok (.if_icmp .ne 12, 3) := by decide +kernel
theorem zd155_19 : decode zxm155.2.1 19 = .ok (.aload_n 0, 1) := by decide +kernel
theorem zd155_20 : decode zxm155.2.1 20 = .ok (.iconst 0, 1) := by decide +kernel
theorem zd155_21 : decode zxm155.2.1 21 = .ok (.putfield 31, 3) := by decide +kernel
theorem zd155_24 : decode zxm155.2.1 24 = .ok (.aload_n 0, 1) := by decide +kernel
theorem zd155_25 : decode zxm155.2.1 25 = .ok (.invokevirtual 68, 3) := by decide +kernel
theorem zd155_28 : decode zxm155.2.1 28 = .ok (.return_, 1) := by decide +kernel
theorem zt_Sky_passHour {f0 : Int} {f1 : Int} {g0 : (Int → Int)} {g1 : (Int → Int)} {g2 : (Int → Int)} {g3 : (Int → Int)} {o : Int × Int × (Int → Int) × (Int → Int)} (h : zf_Sky_passHour f0 f1 g0 g1 g2 g3 = some o) : zv_Fn z_TB z_cl z_KX zy_Sky_passHour zxm155 (3, 180) [.inr 0] [.inl f0, .inl f1] [g0, g1, g2, g3] none [.inl o.1, .inl o.2.1] [o.2.2.1, g1, o.2.2.2, g3] := zv_meth (K := (z_KF8, z_KC8, z_KL8, z_KT8, [], [], [], none)) (FT := z_FT) (MT := z_MT) (n := 1) zxp155 (z_ks8 _ (fun _ h => List.mem_cons_of_mem _ h) _ _ _ _ (fun j r h _ => by cases h)) (fun _ _ => zs_KX_p) zyw_Sky_passHour (fun va F G h => by obtain ⟨rfl, _⟩ := h; rfl) (fun va F G h => by obtain ⟨rfl, _⟩ := h; rfl) rfl fun good va F G hB hret hvret hP => by
  obtain ⟨rfl, rfl, rfl⟩ := hP
  unfold zf_Sky_passHour at h
  refine zv_ald hB zd155_0 rfl rfl rfl ?_
  refine zv_dup hB zd155_1 rfl ?_
  refine zv_getf hB zd155_2 rfl rfl (fun _ _ => ?_)
  refine zv_con hB zd155_5 rfl ?_
  refine zv_addw hB zd155_6 ?_
  refine zv_putf hB zd155_7 rfl rfl (fun h => by cases h) rfl ?_
  refine zv_ald hB zd155_10 rfl rfl rfl ?_
  refine zv_getf hB zd155_11 rfl rfl (fun _ _ => ?_)
  refine zv_con hB zd155_14 rfl ?_
  refine zv_cne hB zd155_16 rfl (fun hc1 => ?_) (fun hc1 => ?_)
  · rw [if_neg hc1] at h
    have hw := Option.some.inj h
    subst hw
    exact hvret _ _ _ _ zd155_28 trivial ⟨rfl, rfl, rfl⟩
  · rw [if_pos hc1] at h
    refine zv_ald hB zd155_19 rfl rfl rfl ?_
    refine zv_con hB zd155_20 rfl ?_
    refine zv_putf hB zd155_21 rfl rfl (fun h => by cases h) rfl ?_
    refine zv_ald hB zd155_24 rfl rfl rfl ?_
    obtain ⟨r2, hr2, h⟩ := zi_bind h
    refine zv_cv hB (zv_emq (va2 := [.inr 0]) (F := [.inl 0, .inl f1]) (F' := [.inl 0, .inl r2.1]) (G := [g0, g1, g2, g3]) (G' := [r2.2.1, g1, r2.2.2, g3]) (ρ := [0, 1, 2, 3, 4]) (φ := [1]) (ψ := [0, 1, 2, 3]) [none, some 0] [some 0, some 1, some 2, some 3] zyw_Sky_beginNight zyw_Sky_passHour zye_Sky_passHour (by decide +kernel) (zt_Sky_beginNight hr2) ⟨⟨_, rfl, fun _ => rfl⟩, trivial⟩ ⟨rfl, rfl, rfl, rfl, trivial⟩ rfl rfl rfl rfl rfl rfl rfl) zd155_25 zxt156 rfl (by decide) (by decide) rfl ?_
    have hw := Option.some.inj h
    subst hw
    exact hvret _ _ _ _ zd155_28 trivial ⟨rfl, rfl, rfl⟩
end
