/-! 61e.dec, 61f.dec -/
section
/-! Methods as functions, and that they do what these do. -/
/-! Sky_drawClouds (LStarTales$Law;)V -/
-- names: 0 Sky('arg', 0), 1 Law('arg', 1), 2 (0, 13)(1, 4, 12), 3 (0, 14)(1, 4, 3), 4 (0, 14)(1, 4, 5), 5 (0, 14)(1, 4, 6), 6 (0, 200)(1, 4, 0), 7 (0, 40)(1, 4, 13), 8 (0, 200)(1, 4, 1), 9 (0, 14)(1, 4, 4)
-- fields: f0 = 0.hour_, f1 = 0.night_, f2 = 0.chance_, f3 = 1.clauses_, f4 = 1.answer_, f5 = 0.clouds_; arrays: g0 = 2, g1 = 3, g2 = 4, g3 = 5, g4 = 6, g5 = 7, g6 = 8, g7 = 9; out: [('f', 2), ('f', 4), ('f', 5), ('g', 0), ('g', 5)]
abbrev zy_Sky_drawClouds : zNL := (10, [(0, 1), (1, 4)], [(0, 1, 6, 0), (0, 1, 7, 1), (0, 1, 11, 2), (1, 4, 7, 3), (1, 4, 14, 4), (0, 1, 8, 5)], [(1, 4, 12, 2), (1, 4, 3, 3), (1, 4, 5, 4), (1, 4, 6, 5), (1, 4, 0, 6), (1, 4, 13, 7), (1, 4, 1, 8), (1, 4, 4, 9)], [(2, 0, 13, 0), (3, 0, 14, 1), (4, 0, 14, 2), (5, 0, 14, 3), (6, 0, 200, 4), (7, 0, 40, 5), (8, 0, 200, 6), (9, 0, 14, 7)])
theorem zyw_Sky_drawClouds : zv_wf zy_Sky_drawClouds = true := by decide +kernel
theorem zye_Sky_drawClouds : zv_ek2 zy_Sky_drawClouds = true := by decide +kernel
def zf_Sky_drawClouds_l0_b (f3 : Int) (g1 : (Int → Int)) (g2 : (Int → Int)) (g3 : (Int → Int)) (g4 : (Int → Int)) (g6 : (Int → Int)) (g7 : (Int → Int)) (rec : Int → Int → Int → Int → (Int → Int) → (Int → Int) → Option (Int × Int × Int × (Int → Int) × (Int → Int))) (x2 : Int) (x3 : Int) (f2 : Int) (f4 : Int) (g0 : (Int → Int)) (g5 : (Int → Int)) : Option (Int × Int × Int × (Int → Int) × (Int → Int)) := if x3 < 24 then ((zf_Law_amount 113 10 f3 f4 g1 g2 g3 g4 g5 g6 (zv_up g0 5 x3) g7).bind fun r4 => (if (zi_rem (zi_rem (zi_w ((zi_w (25173 * f2)) + 13849)) 65536) 10) < r4.1 then (rec (zi_or x2 (zi_shl 1 x3)) (zi_w (x3 + 1)) (zi_rem (zi_w ((zi_w (25173 * f2)) + 13849)) 65536) r4.2.1 (zv_up g0 5 x3) r4.2.2) else (rec x2 (zi_w (x3 + 1)) (zi_rem (zi_w ((zi_w (25173 * f2)) + 13849)) 65536) r4.2.1 (zv_up g0 5 x3) r4.2.2))) else (some (x2, f2, f4, g0, g5))
def zf_Sky_drawClouds_l0 (f3 : Int) (g1 : (Int → Int)) (g2 : (Int → Int)) (g3 : (Int → Int)) (g4 : (Int → Int)) (g6 : (Int → Int)) (g7 : (Int → Int)) : Nat → Int → Int → Int → Int → (Int → Int) → (Int → Int) → Option (Int × Int × Int × (Int → Int) × (Int → Int))
  | 0, _, _, _, _, _, _ => none
  | n + 1, x2, x3, f2, f4, g0, g5 => zf_Sky_drawClouds_l0_b f3 g1 g2 g3 g4 g6 g7 (zf_Sky_drawClouds_l0 f3 g1 g2 g3 g4 g6 g7 n) x2 x3 f2 f4 g0 g5
def zf_Sky_drawClouds (f0 : Int) (f1 : Int) (f2 : Int) (f3 : Int) (f4 : Int) (f5 : Int) (g0 : (Int → Int)) (g1 : (Int → Int)) (g2 : (Int → Int)) (g3 : (Int → Int)) (g4 : (Int → Int)) (g5 : (Int → Int)) (g6 : (Int → Int)) (g7 : (Int → Int)) : Option (Int × Int × Int × (Int → Int) × (Int → Int)) := (zf_Law_forgetLetters g0).bind fun r1 => ((zf_Law_setTime f0 f1 r1).bind fun r2 => ((zf_Sky_drawClouds_l0 f3 g1 g2 g3 g4 g6 g7 zi_fu 0 0 f2 f4 r2 g5).bind fun q6 => (some (q6.2.1, q6.2.2.1, q6.1, q6.2.2.2.1, q6.2.2.2.2))))
theorem zd152_0 : decode zxm152.2.1 0 = .ok (.aload_n 1, 1) := by decide +kernel
theorem zd152_1 : decode zxm152.2.1 1 = .ok (.invokevirtual 71, 3) := by decide +kernel
theorem zd152_4 : decode zxm152.2.1 4 = .ok (.aload_n 1, 1) := by decide +kernel
theorem zd152_5 : decode zxm152.2.1 5 = .ok (.aload_n 0, 1) := by decide +kernel
theorem zd152_6 : decode zxm152.2.1 6 = .ok (.invokevirtual 76, 3) := by decide +kernel
theorem zd152_9 : decode zxm152.2.1 9 = .ok (.iconst 0, 1) := by decide +kernel
theorem zd152_10 : decode zxm152.2.1 10 = .ok (.istore_n 2, 1) := by decide +kernel
theorem zd152_11 : decode zxm152.2.1 11 = .ok (.iconst 0, 1) := by decide +kernel
theorem zd152_12 : decode zxm152.2.1 12 = .ok (.istore_n 3, 1) := by decide +kernel
theorem zd152_13 : decode zxm152.2.1 13 = .ok (.iload_n 3, 1) := by decide +kernel
theorem zd152_14 : decode zxm152.2.1 14 = .ok (.bipush 24, 2) := by decide +kernel
theorem zd152_16 : decode zxm152.2.1 16 = .ok (.if_icmp .ge 59, 3) := by decide +kernel
theorem zd152_19 : decode zxm152.2.1 19 = .ok (.aload_n 0, 1) := by decide +kernel
theorem zd152_20 : decode zxm152.2.1 20 = .ok (.sipush 25173, 3) := by decide +kernel
theorem zd152_23 : decode zxm152.2.1 23 = .ok (.aload_n 0, 1) := by decide +kernel
theorem zd152_24 : decode zxm152.2.1 24 = .ok (.getfield 46, 3) := by decide +kernel
theorem zd152_27 : decode zxm152.2.1 27 = .ok (.imul, 1) := by decide +kernel
theorem zd152_28 : decode zxm152.2.1 28 = .ok (.sipush 13849, 3) := by decide +kernel
theorem zd152_31 : decode zxm152.2.1 31 = .ok (.iadd, 1) := by decide +kernel
theorem zd152_32 : decode zxm152.2.1 32 = .ok (.ldc 80, 2) := by decide +kernel
theorem zd152_34 : decode zxm152.2.1 34 = .ok (.irem, 1) := by decide +kernel
theorem zd152_35 : decode zxm152.2.1 35 = .ok (.putfield 46, 3) := by decide +kernel
theorem zd152_38 : decode zxm152.2.1 38 = .ok (.aload_n 1, 1) := by decide +kernel
theorem zd152_39 : decode zxm152.2.1 39 = .ok (.getfield 81, 3) := by decide +kernel
theorem zd152_42 : decode zxm152.2.1 42 = .ok (.iconst 5, 1) := by decide +kernel
theorem zd152_43 : decode zxm152.2.1 43 = .ok (.iload_n 3, 1) := by decide +kernel
theorem zd152_44 : decode zxm152.2.1 44 = .ok (.iastore, 1) := by decide +kernel
theorem zd152_45 : decode zxm152.2.1 45 = .ok (.aload_n 0, 1) := by decide +kernel
theorem zd152_46 : decode zxm152.2.1 46 = .ok (.getfield 46, 3) := by decide +kernel
theorem zd152_49 : decode zxm152.2.1 49 = .ok (.bipush 10, 2) := by decide +kernel
theorem zd152_51 : decode zxm152.2.1 51 = .ok (.irem, 1) := by decide +kernel
theorem zd152_52 : decode zxm152.2.1 52 = .ok (.aload_n 1, 1) := by decide +kernel
theorem zd152_53 : decode zxm152.2.1 53 = .ok (.bipush 113, 2) := by decide +kernel
theorem zd152_55 : decode zxm152.2.1 55 = .ok (.bipush 10, 2) := by decide +kernel
theorem zd152_57 : decode zxm152.2.1 57 = .ok (.invokevirtual 84, 3) := by decide +kernel
theorem zd152_60 : decode zxm152.2.1 60 = .ok (.if_icmp .ge 9, 3) := by decide +kernel
theorem zd152_63 : decode zxm152.2.1 63 = .ok (.iload_n 2, 1) := by decide +kernel
theorem zd152_64 : decode zxm152.2.1 64 = .ok (.iconst 1, 1) := by decide +kernel
theorem zd152_65 : decode zxm152.2.1 65 = .ok (.iload_n 3, 1) := by decide +kernel
theorem zd152_66 : decode zxm152.2.1 66 = .ok (.ishl, 1) := by decide +kernel
theorem zd152_67 : decode zxm152.2.1 67 = .ok (.ior, 1) := by decide +kernel
theorem zd152_68 : decode zxm152.2.1 68 = .ok (.istore_n 2, 1) := by decide +kernel
theorem zd152_69 : decode zxm152.2.1 69 = .ok (.iinc 3 1, 3) := by decide +kernel
theorem zd152_72 : decode zxm152.2.1 72 = .ok (.goto (-59), 3) := by decide +kernel
theorem zd152_75 : decode zxm152.2.1 75 = .ok (.aload_n 0, 1) := by decide +kernel
theorem zd152_76 : decode zxm152.2.1 76 = .ok (.iload_n 2, 1) := by decide +kernel
theorem zd152_77 : decode zxm152.2.1 77 = .ok (.putfield 37, 3) := by decide +kernel
theorem zd152_80 : decode zxm152.2.1 80 = .ok (.return_, 1) := by decide +kernel
theorem zt_Sky_drawClouds {f0 : Int} {f1 : Int} {f2 : Int} {f3 : Int} {f4 : Int} {f5 : Int} {g0 : (Int → Int)} {g1 : (Int → Int)} {g2 : (Int → Int)} {g3 : (Int → Int)} {g4 : (Int → Int)} {g5 : (Int → Int)} {g6 : (Int → Int)} {g7 : (Int → Int)} {o : Int × Int × Int × (Int → Int) × (Int → Int)} (h : zf_Sky_drawClouds f0 f1 f2 f3 f4 f5 g0 g1 g2 g3 g4 g5 g6 g7 = some o) : zv_Fn z_TB z_cl z_KX zy_Sky_drawClouds zxm152 (3, 180) [.inr 0, .inr 1] [.inl f0, .inl f1, .inl f2, .inl f3, .inl f4, .inl f5] [g0, g1, g2, g3, g4, g5, g6, g7] none [.inl f0, .inl f1, .inl o.1, .inl f3, .inl o.2.1, .inl o.2.2.1] [o.2.2.2.1, g1, g2, g3, g4, o.2.2.2.2, g6, g7] := zv_meth (K := (z_KF8, z_KC8, z_KL8, z_KT8, [], [], [], none)) (FT := z_FT) (MT := z_MT) (n := 2) zxp152 (z_ks8 _ (fun _ h => List.mem_cons_of_mem _ h) _ _ _ _ (fun j r h _ => by cases h)) (fun _ _ => zs_KX_p) zyw_Sky_drawClouds (fun va F G h => by obtain ⟨rfl, _⟩ := h; rfl) (fun va F G h => by obtain ⟨rfl, _⟩ := h; rfl) rfl fun good va F G hB hret hvret hP => by
  obtain ⟨rfl, rfl, rfl⟩ := hP
  have l0 : ∀ (n : Nat) (x2 : Int) (x3 : Int) (f2 : Int) (f4 : Int) (f5 : Int) (g0 : (Int → Int)) (g5 : (Int → Int)) (q : Int × Int × Int × (Int → Int) × (Int → Int)), zf_Sky_drawClouds_l0 f3 g1 g2 g3 g4 g6 g7 n x2 x3 f2 f4 g0 g5 = some q → (good 75 [.inr 0, .inr 1000, .inl q.1, .inr 1000] [] [.inl f0, .inl f1, .inl q.2.1, .inl f3, .inl q.2.2.1, .inl f5] [q.2.2.2.1, g1, g2, g3, g4, q.2.2.2.2, g6, g7]) → good 13 [.inr 0, .inr 1, .inl x2, .inl x3] [] [.inl f0, .inl f1, .inl f2, .inl f3, .inl f4, .inl f5] [g0, g1, g2, g3, g4, g5, g6, g7] := by
    intro n
    induction n with
    | zero => intro x2 x3 f2 f4 f5 g0 g5 q h; exact absurd (show none = some q from h) (fun h => by cases h)
    | succ n ih =>
      intro x2 x3 f2 f4 f5 g0 g5 q h hK
      replace h : zf_Sky_drawClouds_l0_b f3 g1 g2 g3 g4 g6 g7 (zf_Sky_drawClouds_l0 f3 g1 g2 g3 g4 g6 g7 n) x2 x3 f2 f4 g0 g5 = some q := h
      unfold zf_Sky_drawClouds_l0_b at h
      refine zv_ild hB zd152_13 rfl rfl ?_
      refine zv_con hB zd152_14 rfl ?_
      refine zv_cge hB zd152_16 rfl (fun hc3 => ?_) (fun hc3 => ?_)
      · rw [if_neg (Int.not_lt.mpr hc3)] at h
        have hq := Option.some.inj h
        subst hq
        refine zv_wk hB (L' := [.inr 0, .inr 1000, .inl x2, .inr 1000]) (F' := [.inl f0, .inl f1, .inl f2, .inl f3, .inl f4, .inl f5]) ⟨fun _ => rfl, fun (h : zv_is (.inr 1000)) => (Nat.lt_irrefl 1000 h).elim, fun _ => rfl, fun (h : zv_is (.inr 1000)) => (Nat.lt_irrefl 1000 h).elim, trivial⟩ ⟨fun _ => rfl, fun _ => rfl, fun _ => rfl, fun _ => rfl, fun _ => rfl, fun _ => rfl, trivial⟩ ?_
        exact hK
      · rw [if_pos hc3] at h
        refine zv_ald hB zd152_19 rfl rfl rfl ?_
        refine zv_con hB zd152_20 rfl ?_
        refine zv_ald hB zd152_23 rfl rfl rfl ?_
        refine zv_getf hB zd152_24 rfl rfl (fun _ _ => ?_)
        refine zv_mulw hB zd152_27 ?_
        refine zv_con hB zd152_28 rfl ?_
        refine zv_addw hB zd152_31 ?_
        refine zv_con (n := 65536) hB zd152_32 (by decide +kernel) ?_
        refine zv_remw hB zd152_34 (by decide) ?_
        refine zv_putf hB zd152_35 rfl rfl (fun h => by cases h) rfl ?_
        refine zv_ald hB zd152_38 rfl rfl rfl ?_
        refine zv_getr hB zd152_39 rfl ?_
        refine zv_con hB zd152_42 rfl ?_
        refine zv_ild hB zd152_43 rfl rfl ?_
        refine zv_iast hB zd152_44 rfl rfl (by decide) (by decide) ?_
        refine zv_ald hB zd152_45 rfl rfl rfl ?_
        refine zv_getf hB zd152_46 rfl rfl (fun _ _ => ?_)
        refine zv_con hB zd152_49 rfl ?_
        refine zv_remw hB zd152_51 (by decide) ?_
        refine zv_ald hB zd152_52 rfl rfl rfl ?_
        refine zv_con hB zd152_53 rfl ?_
        refine zv_con hB zd152_55 rfl ?_
        obtain ⟨r4, hr4, h⟩ := zi_bind h
        refine zv_cv hB (zv_emq (va2 := [.inr 1, .inl 113, .inl 10]) (F := [.inl f0, .inl f1, .inl (zi_rem (zi_w ((zi_w (25173 * f2)) + 13849)) 65536), .inl f3, .inl f4, .inl f5]) (F' := [.inl f0, .inl f1, .inl (zi_rem (zi_w ((zi_w (25173 * f2)) + 13849)) 65536), .inl f3, .inl r4.2.1, .inl f5]) (G := [(zv_up g0 5 x3), g1, g2, g3, g4, g5, g6, g7]) (G' := [(zv_up g0 5 x3), g1, g2, g3, g4, r4.2.2, g6, g7]) (ρ := [1, 3, 4, 5, 6, 7, 8, 2, 9]) (φ := [3, 4]) (ψ := [1, 2, 3, 4, 5, 6, 0, 7]) [none, none, none, some 0, some 1, none] [some 6, some 0, some 1, some 2, some 3, some 4, some 5, some 7] zyw_Law_amount zyw_Sky_drawClouds zye_Sky_drawClouds (by decide +kernel) (zt_Law_amount hr4) ⟨⟨_, rfl, fun _ => rfl⟩, ⟨_, rfl, fun _ => rfl⟩, trivial⟩ ⟨rfl, rfl, rfl, rfl, rfl, rfl, rfl, rfl, trivial⟩ rfl rfl rfl rfl rfl rfl rfl) zd152_57 zxt146 rfl (by decide) (by decide) rfl ?_
        refine zv_cge hB zd152_60 rfl (fun hc5 => ?_) (fun hc5 => ?_)
        · rw [if_neg (Int.not_lt.mpr hc5)] at h
          refine zv_iincw hB zd152_69 rfl rfl ?_
          refine zv_goto hB zd152_72 rfl ?_
          exact ih _ _ _ _ _ _ _ q h hK
        · rw [if_pos hc5] at h
          refine zv_ild hB zd152_63 rfl rfl ?_
          refine zv_con hB zd152_64 rfl ?_
          refine zv_ild hB zd152_65 rfl rfl ?_
          refine zv_shlw hB zd152_66 ?_
          refine zv_orw hB zd152_67 ?_
          refine zv_ist hB zd152_68 rfl rfl rfl ?_
          refine zv_iincw hB zd152_69 rfl rfl ?_
          refine zv_goto hB zd152_72 rfl ?_
          exact ih _ _ _ _ _ _ _ q h hK
  unfold zf_Sky_drawClouds at h
  refine zv_ald hB zd152_0 rfl rfl rfl ?_
  obtain ⟨r1, hr1, h⟩ := zi_bind h
  refine zv_cv hB (zv_emq (va2 := [.inr 1]) (F := [.inl f0, .inl f1, .inl f2, .inl f3, .inl f4, .inl f5]) (F' := [.inl f0, .inl f1, .inl f2, .inl f3, .inl f4, .inl f5]) (G := [g0, g1, g2, g3, g4, g5, g6, g7]) (G' := [r1, g1, g2, g3, g4, g5, g6, g7]) (ρ := [1, 2]) (φ := []) (ψ := [0]) [none, none, none, none, none, none] [some 0, none, none, none, none, none, none, none] zyw_Law_forgetLetters zyw_Sky_drawClouds zye_Sky_drawClouds (by decide +kernel) (zt_Law_forgetLetters hr1) trivial ⟨rfl, trivial⟩ rfl rfl rfl rfl rfl rfl rfl) zd152_1 zxt87 rfl (by decide) (by decide) rfl ?_
  refine zv_ald hB zd152_4 rfl rfl rfl ?_
  refine zv_ald hB zd152_5 rfl rfl rfl ?_
  obtain ⟨r2, hr2, h⟩ := zi_bind h
  refine zv_cv hB (zv_emq (va2 := [.inr 1, .inr 0]) (F := [.inl f0, .inl f1, .inl f2, .inl f3, .inl f4, .inl f5]) (F' := [.inl f0, .inl f1, .inl f2, .inl f3, .inl f4, .inl f5]) (G := [r1, g1, g2, g3, g4, g5, g6, g7]) (G' := [r2, g1, g2, g3, g4, g5, g6, g7]) (ρ := [1, 0, 2]) (φ := [0, 1]) (ψ := [0]) [some 0, some 1, none, none, none, none] [some 0, none, none, none, none, none, none, none] zyw_Law_setTime zyw_Sky_drawClouds zye_Sky_drawClouds (by decide +kernel) (zt_Law_setTime hr2) ⟨⟨_, rfl, fun _ => rfl⟩, ⟨_, rfl, fun _ => rfl⟩, trivial⟩ ⟨rfl, trivial⟩ rfl rfl rfl rfl rfl rfl rfl) zd152_6 zxt88 rfl (by decide) (by decide) rfl ?_
  refine zv_con hB zd152_9 rfl ?_
  refine zv_ist hB zd152_10 rfl rfl rfl ?_
  refine zv_con hB zd152_11 rfl ?_
  refine zv_ist hB zd152_12 rfl rfl rfl ?_
  obtain ⟨q6, hq6, h⟩ := zi_bind h
  refine l0 _ _ _ _ _ _ _ _ q6 hq6 ?_
  show good 75 [.inr 0, .inr 1000, .inl q6.1, .inr 1000] [] [.inl f0, .inl f1, .inl q6.2.1, .inl f3, .inl q6.2.2.1, .inl f5] [q6.2.2.2.1, g1, g2, g3, g4, q6.2.2.2.2, g6, g7]
  refine zv_ald hB zd152_75 rfl rfl rfl ?_
  refine zv_ild hB zd152_76 rfl rfl ?_
  refine zv_putf hB zd152_77 rfl rfl (fun h => by cases h) rfl ?_
  have hw := Option.some.inj h
  subst hw
  exact hvret _ _ _ _ zd152_80 trivial ⟨rfl, rfl, rfl⟩
/-! X_steered (IIIZ)I -/
-- names: 0 StarTales('arg', 0), 1 Sea(0, 0, 3), 2 Sky(0, 0, 0), 3 (0, 6)(1, 2, 2), 4 View(0, 0, 12), 5 Law(0, 0, 7), 6 (0, 24)(4, 7, 8), 7 Pilot(0, 0, 15), 8 (0, 13)(5, 4, 12), 9 (0, 24)(2, 1, 1), 10 (0, 24)(2, 1, 2), 11 (0, 24)(2, 1, 3), 12 (0, 14)(5, 4, 3), 13 (0, 14)(5, 4, 5), 14 (0, 14)(5, 4, 6), 15 (0, 200)(5, 4, 0), 16 (0, 40)(5, 4, 13), 17 (0, 200)(5, 4, 1), 18 (0, 12)(1, 2, 0), 19 (0, 24)(2, 1, 4), 20 (0, 24)(2, 1, 5), 21 (0, 14)(5, 4, 4)
-- fields: f0 = 1.shipsTold_, f1 = 2.told_, f2 = 0.ruling_, f3 = 4.sky_, f4 = 4.law_, f5 = 4.starsAsked_, f6 = 4.x_, f7 = 4.y_, f8 = 2.hour_, f9 = 2.night_, f10 = 2.sightColumns_, f11 = 2.sightRows_, f12 = 2.clouds_, f13 = 5.tellsSeen_, f14 = 4.starsHold_, f15 = 5.clauses_, f16 = 5.answer_, f17 = 5.seenByPlace_, f18 = 2.chance_; arrays: g0 = 3, g1 = 6, g2 = 8, g3 = 9, g4 = 10, g5 = 11, g6 = 12, g7 = 13, g8 = 14, g9 = 15, g10 = 16, g11 = 17, g12 = 18, g13 = 19, g14 = 20, g15 = 21; out: [('ret', None), ('f', 5), ('f', 6), ('f', 7), ('f', 8), ('f', 9), ('f', 12), ('f', 14), ('f', 16), ('f', 18), ('g', 0), ('g', 1), ('g', 2), ('g', 3), ('g', 4), ('g', 10)]
abbrev zy_X_steered : zNL := (22, [(0, 0), (1, 2), (2, 1), (4, 7), (5, 4), (7, 9)], [(1, 2, 1, 0), (2, 1, 0, 1), (0, 0, 7, 2), (4, 7, 0, 3), (4, 7, 1, 4), (4, 7, 6, 5), (4, 7, 2, 6), (4, 7, 3, 7), (2, 1, 6, 8), (2, 1, 7, 9), (2, 1, 9, 10), (2, 1, 10, 11), (2, 1, 8, 12), (5, 4, 8, 13), (4, 7, 7, 14), (5, 4, 7, 15), (5, 4, 14, 16), (5, 4, 10, 17), (2, 1, 11, 18)], [(0, 0, 3, 1), (0, 0, 0, 2), (1, 2, 2, 3), (0, 0, 12, 4), (4, 7, 8, 6), (0, 0, 15, 7), (5, 4, 12, 8), (2, 1, 1, 9), (2, 1, 2, 10), (2, 1, 3, 11), (5, 4, 3, 12), (5, 4, 5, 13), (5, 4, 6, 14), (5, 4, 0, 15), (5, 4, 13, 16), (5, 4, 1, 17), (1, 2, 0, 18), (2, 1, 4, 19), (2, 1, 5, 20), (5, 4, 4, 21)], [(3, 0, 6, 0), (6, 0, 24, 1), (8, 0, 13, 2), (9, 0, 24, 3), (10, 0, 24, 4), (11, 0, 24, 5), (12, 0, 14, 6), (13, 0, 14, 7), (14, 0, 14, 8), (15, 0, 200, 9), (16, 0, 40, 10), (17, 0, 200, 11), (18, 0, 12, 12), (19, 0, 24, 13), (20, 0, 24, 14), (21, 0, 14, 15)])
theorem zyw_X_steered : zv_wf zy_X_steered = true := by decide +kernel
theorem zye_X_steered : zv_ek2 zy_X_steered = true := by decide +kernel
def zf_X_steered_l0_b (x2 : Int) (x3 : Int) (x4 : Int) (f1 : Int) (f10 : Int) (f11 : Int) (f13 : Int) (f15 : Int) (f17 : Int) (g5 : (Int → Int)) (g6 : (Int → Int)) (g7 : (Int → Int)) (g8 : (Int → Int)) (g9 : (Int → Int)) (g11 : (Int → Int)) (g12 : (Int → Int)) (g13 : (Int → Int)) (g14 : (Int → Int)) (g15 : (Int → Int)) (rec : Int → Int → Int → Int → Int → Int → Int → Int → Int → Int → Int → (Int → Int) → (Int → Int) → (Int → Int) → (Int → Int) → (Int → Int) → Option (Int × Int × Int × Int × Int × Int × Int × Int × Int × Int × (Int → Int) × (Int → Int) × (Int → Int) × (Int → Int) × (Int → Int))) (x5 : Int) (x6 : Int) (f5 : Int) (f6 : Int) (f7 : Int) (f8 : Int) (f9 : Int) (f12 : Int) (f14 : Int) (f16 : Int) (f18 : Int) (g1 : (Int → Int)) (g2 : (Int → Int)) (g3 : (Int → Int)) (g4 : (Int → Int)) (g10 : (Int → Int)) : Option (Int × Int × Int × Int × Int × Int × Int × Int × Int × Int × (Int → Int) × (Int → Int) × (Int → Int) × (Int → Int) × (Int → Int)) := if x6 < x3 then (if x4 = 0 then ((zf_View_open f5 g1).bind fun r10 => ((zf_Pilot_step x5 x2 f6 f7 f8 f9 f1 f10 f11 f12 f13 r10.1 f14 f15 f16 f17 g2 g3 g4 g5 g6 g7 g8 g9 g10 g11 g12).bind fun r11 => ((zf_Sky_passHour f8 f9 g3 g13 g4 g14).bind fun r12 => (rec r11.1 (zi_w (x6 + 1)) r11.2.2.2.1 r11.2.1 r11.2.2.1 r12.1 r12.2.1 f12 r11.2.2.2.2.1 r11.2.2.2.2.2.1 f18 r10.2 r11.2.2.2.2.2.2.1 r12.2.2.1 r12.2.2.2 r11.2.2.2.2.2.2.2)))) else ((zf_Sky_drawClouds f8 f9 f18 f15 f16 f12 g2 g6 g7 g8 g9 g10 g11 g15).bind fun r13 => ((zf_View_open f5 g1).bind fun r14 => ((zf_Pilot_step x5 x2 f6 f7 f8 f9 f1 f10 f11 r13.2.2.1 f13 r14.1 f14 f15 r13.2.1 f17 r13.2.2.2.1 g3 g4 g5 g6 g7 g8 g9 r13.2.2.2.2 g11 g12).bind fun r15 => ((zf_Sky_passHour f8 f9 g3 g13 g4 g14).bind fun r16 => (rec r15.1 (zi_w (x6 + 1)) r15.2.2.2.1 r15.2.1 r15.2.2.1 r16.1 r16.2.1 r13.2.2.1 r15.2.2.2.2.1 r15.2.2.2.2.2.1 r13.1 r14.2 r15.2.2.2.2.2.2.1 r16.2.2.1 r16.2.2.2 r15.2.2.2.2.2.2.2)))))) else (some (x5, f5, f6, f7, f8, f9, f12, f14, f16, f18, g1, g2, g3, g4, g10))
def zf_X_steered_l0 (x2 : Int) (x3 : Int) (x4 : Int) (f1 : Int) (f10 : Int) (f11 : Int) (f13 : Int) (f15 : Int) (f17 : Int) (g5 : (Int → Int)) (g6 : (Int → Int)) (g7 : (Int → Int)) (g8 : (Int → Int)) (g9 : (Int → Int)) (g11 : (Int → Int)) (g12 : (Int → Int)) (g13 : (Int → Int)) (g14 : (Int → Int)) (g15 : (Int → Int)) : Nat → Int → Int → Int → Int → Int → Int → Int → Int → Int → Int → Int → (Int → Int) → (Int → Int) → (Int → Int) → (Int → Int) → (Int → Int) → Option (Int × Int × Int × Int × Int × Int × Int × Int × Int × Int × (Int → Int) × (Int → Int) × (Int → Int) × (Int → Int) × (Int → Int))
  | 0, _, _, _, _, _, _, _, _, _, _, _, _, _, _, _, _ => none
  | n + 1, x5, x6, f5, f6, f7, f8, f9, f12, f14, f16, f18, g1, g2, g3, g4, g10 => zf_X_steered_l0_b x2 x3 x4 f1 f10 f11 f13 f15 f17 g5 g6 g7 g8 g9 g11 g12 g13 g14 g15 (zf_X_steered_l0 x2 x3 x4 f1 f10 f11 f13 f15 f17 g5 g6 g7 g8 g9 g11 g12 g13 g14 g15 n) x5 x6 f5 f6 f7 f8 f9 f12 f14 f16 f18 g1 g2 g3 g4 g10
def zf_X_steered (x1 : Int) (x2 : Int) (x3 : Int) (x4 : Int) (f0 : Int) (f1 : Int) (f5 : Int) (f6 : Int) (f7 : Int) (f8 : Int) (f9 : Int) (f10 : Int) (f11 : Int) (f12 : Int) (f13 : Int) (f14 : Int) (f15 : Int) (f16 : Int) (f17 : Int) (f18 : Int) (g0 : (Int → Int)) (g1 : (Int → Int)) (g2 : (Int → Int)) (g3 : (Int → Int)) (g4 : (Int → Int)) (g5 : (Int → Int)) (g6 : (Int → Int)) (g7 : (Int → Int)) (g8 : (Int → Int)) (g9 : (Int → Int)) (g10 : (Int → Int)) (g11 : (Int → Int)) (g12 : (Int → Int)) (g13 : (Int → Int)) (g14 : (Int → Int)) (g15 : (Int → Int)) : Option (Int × Int × Int × Int × Int × Int × Int × Int × Int × Int × (Int → Int) × (Int → Int) × (Int → Int) × (Int → Int) × (Int → Int) × (Int → Int)) := (zf_Sea_hasShip x1 f0).bind fun r1 => (if r1 = 0 then (some ((-1), f5, f6, f7, f8, f9, f12, f14, f16, f18, g0, g1, g2, g3, g4, g10)) else ((zf_Sky_hasStar x2 f1).bind fun r3 => (if r3 = 0 then (some ((-1), f5, f6, f7, f8, f9, f12, f14, f16, f18, g0, g1, g2, g3, g4, g10)) else ((zf_X_isWithin x3 1 48).bind fun r5 => (if r5 = 0 then (some ((-1), f5, f6, f7, f8, f9, f12, f14, f16, f18, g0, g1, g2, g3, g4, g10)) else (cond (zi_ix x1 6) ((zf_X_steered_l0 x2 x3 x4 f1 f10 f11 f13 f15 f17 g5 g6 g7 g8 g9 g11 g12 g13 g14 g15 zi_fu (g0 x1) 0 f5 f6 f7 f8 f9 f12 f14 f16 f18 g1 g2 g3 g4 g10).bind fun q17 => (some (q17.1, q17.2.1, q17.2.2.1, q17.2.2.2.1, q17.2.2.2.2.1, q17.2.2.2.2.2.1, q17.2.2.2.2.2.2.1, q17.2.2.2.2.2.2.2.1, q17.2.2.2.2.2.2.2.2.1, q17.2.2.2.2.2.2.2.2.2.1, (zv_up g0 x1 q17.1), q17.2.2.2.2.2.2.2.2.2.2.1, q17.2.2.2.2.2.2.2.2.2.2.2.1, q17.2.2.2.2.2.2.2.2.2.2.2.2.1, q17.2.2.2.2.2.2.2.2.2.2.2.2.2.1, q17.2.2.2.2.2.2.2.2.2.2.2.2.2.2))) none))))))
theorem zd151_0 : decode zxm151.2.1 0 = .ok (.aload_n 0, 1) := by decide +kernel
theorem zd151_1 : decode zxm151.2.1 1 = .ok (.getfield 25, 3) := by decide +kernel
theorem zd151_4 : decode zxm151.2.1 4 = .ok (.iload_n 1, 1) := by decide +kernel
theorem zd151_5 : decode zxm151.2.1 5 = .ok (.invokevirtual 323, 3) := by decide +kernel
theorem zd151_8 : decode zxm151.2.1 8 = .ok (.ifCond .eq 24, 3) := by decide +kernel
theorem zd151_11 : decode zxm151.2.1 11 = .ok (.aload_n 0, 1) := by decide +kernel
theorem zd151_12 : decode zxm151.2.1 12 = .ok (.getfield 10, 3) := by decide +kernel
theorem zd151_15 : decode zxm151.2.1 15 = .ok (.iload_n 2, 1) := by decide +kernel
theorem zd151_16 : decode zxm151.2.1 16 = .ok (.invokevirtual 153, 3) := by decide +kernel
theorem zd151_19 : decode zxm151.2.1 19 = .ok (.ifCond .eq 13, 3) := by decide +kernel
theorem zd151_22 : decode zxm151.2.1 22 = .ok (.iload_n 3, 1) := by decide +kernel
theorem zd151_23 : decode zxm151.2.1 23 = .ok (.iconst 1, 1) := by decide +kernel
theorem zd151_24 : decode zxm151.2.1 24 = .ok (.bipush 48, 2) := by decide +kernel
theorem zd151_26 : decode zxm151.2.1 26 = .ok (.invokestatic 126, 3) := by decide +kernel
theorem zd151_29 : decode zxm151.2.1 29 = .ok (.ifCond .ne 5, 3) := by decide +kernel
theorem zd151_32 : decode zxm151.2.1 32 = .ok (.iconst (-1), 1) := by decide +kernel
theorem zd151_33 : decode zxm151.2.1 33 = .ok (.ireturn, 1) := by decide +kernel
theorem zd151_34 : decode zxm151.2.1 34 = .ok (.aload_n 0, 1) := by decide +kernel
theorem zd151_35 : decode zxm151.2.1 35 = .ok (.getfield 25, 3) := by decide +kernel
theorem zd151_38 : decode zxm151.2.1 38 = .ok (.getfield 187, 3) := by decide +kernel
theorem zd151_41 : decode zxm151.2.1 41 = .ok (.iload_n 1, 1) := by decide +kernel
theorem zd151_42 : decode zxm151.2.1 42 = .ok (.iaload, 1) := by decide +kernel
theorem zd151_43 : decode zxm151.2.1 43 = .ok (.istore 5, 2) := by decide +kernel
theorem zd151_45 : decode zxm151.2.1 45 = .ok (.iconst 0, 1) := by decide +kernel
theorem zd151_46 : decode zxm151.2.1 46 = .ok (.istore 6, 2) := by decide +kernel
theorem zd151_48 : decode zxm151.2.1 48 = .ok (.iload 6, 2) := by decide +kernel
theorem zd151_50 : decode zxm151.2.1 50 = .ok (.iload_n 3, 1) := by decide +kernel
theorem zd151_51 : decode zxm151.2.1 51 = .ok (.if_icmp .ge 67, 3) := by decide +kernel
theorem zd151_54 : decode zxm151.2.1 54 = .ok (.iload 4, 2) := by decide +kernel
theorem zd151_56 : decode zxm151.2.1 56 = .ok (.ifCond .eq 14, 3) := by decide +kernel
theorem zd151_59 : decode zxm151.2.1 59 = .ok (.aload_n 0, 1) := by decide +kernel
theorem zd151_60 : decode zxm151.2.1 60 = .ok (.getfield 10, 3) := by decide +kernel
theorem zd151_63 : decode zxm151.2.1 63 = .ok (.aload_n 0, 1) := by decide +kernel
theorem zd151_64 : decode zxm151.2.1 64 = .ok (.getfield 46, 3) := by decide +kernel
theorem zd151_67 : decode zxm151.2.1 67 = .ok (.invokevirtual 326, 3) := by decide +kernel
theorem zd151_70 : decode zxm151.2.1 70 = .ok (.aload_n 0, 1) := by decide +kernel
theorem zd151_71 : decode zxm151.2.1 71 = .ok (.getfield 81, 3) := by decide +kernel
theorem zd151_74 : decode zxm151.2.1 74 = .ok (.aload_n 0, 1) := by decide +kernel
theorem zd151_75 : decode zxm151.2.1 75 = .ok (.getfield 10, 3) := by decide +kernel
theorem zd151_78 : decode zxm151.2.1 78 = .ok (.aload_n 0, 1) := by decide +kernel
theorem zd151_79 : decode zxm151.2.1 79 = .ok (.getfield 46, 3) := by decide +kernel
theorem zd151_82 : decode zxm151.2.1 82 = .ok (.invokevirtual 211, 3) := by decide +kernel
theorem zd151_85 : decode zxm151.2.1 85 = .ok (.aload_n 0, 1) := by decide +kernel
theorem zd151_86 : decode zxm151.2.1 86 = .ok (.getfield 103, 3) := by decide +kernel
theorem zd151_89 : decode zxm151.2.1 89 = .ok (.aload_n 0, 1) := by decide +kernel
theorem zd151_90 : decode zxm151.2.1 90 = .ok (.getfield 81, 3) := by decide +kernel
theorem zd151_93 : decode zxm151.2.1 93 = .ok (.aload_n 0, 1) := by decide +kernel
theorem zd151_94 : decode zxm151.2.1 94 = .ok (.getfield 25, 3) := by decide +kernel
theorem zd151_97 : decode zxm151.2.1 97 = .ok (.iload 5, 2) := by decide +kernel
theorem zd151_99 : decode zxm151.2.1 99 = .ok (.iload_n 2, 1) := by decide +kernel
theorem zd151_100 : decode zxm151.2.1 100 = .ok (.invokevirtual 330, 3) := by decide +kernel
theorem zd151_103 : decode zxm151.2.1 103 = .ok (.istore 5, 2) := by decide +kernel
theorem zd151_105 : decode zxm151.2.1 105 = .ok (.aload_n 0, 1) := by decide +kernel
theorem zd151_106 : decode zxm151.2.1 106 = .ok (.getfield 10, 3) := by decide +kernel
theorem zd151_109 : decode zxm151.2.1 109 = .ok (.invokevirtual 334, 3) := by decide +kernel
theorem zd151_112 : decode zxm151.2.1 112 = .ok (.iinc 6 1, 3) := by decide +kernel
theorem zd151_115 : decode zxm151.2.1 115 = .ok (.goto (-67), 3) := by decide +kernel
theorem zd151_118 : decode zxm151.2.1 118 = .ok (.aload_n 0, 1) := by decide +kernel
theorem zd151_119 : decode zxm151.2.1 119 = .ok (.getfield 25, 3) := by decide +kernel
theorem zd151_122 : decode zxm151.2.1 122 = .ok (.getfield 187, 3) := by decide +kernel
theorem zd151_125 : decode zxm151.2.1 125 = .ok (.iload_n 1, 1) := by decide +kernel
theorem zd151_126 : decode zxm151.2.1 126 = .ok (.iload 5, 2) := by decide +kernel
theorem zd151_128 : decode zxm151.2.1 128 = .ok (.iastore, 1) := by decide +kernel
theorem zd151_129 : decode zxm151.2.1 129 = .ok (.iload 5, 2) := by decide +kernel
theorem zd151_131 : decode zxm151.2.1 131 = .ok (.ireturn, 1) := by decide +kernel
theorem zt_X_steered {x1 : Int} {x2 : Int} {x3 : Int} {x4 : Int} {f0 : Int} {f1 : Int} {f5 : Int} {f6 : Int} {f7 : Int} {f8 : Int} {f9 : Int} {f10 : Int} {f11 : Int} {f12 : Int} {f13 : Int} {f14 : Int} {f15 : Int} {f16 : Int} {f17 : Int} {f18 : Int} {g0 : (Int → Int)} {g1 : (Int → Int)} {g2 : (Int → Int)} {g3 : (Int → Int)} {g4 : (Int → Int)} {g5 : (Int → Int)} {g6 : (Int → Int)} {g7 : (Int → Int)} {g8 : (Int → Int)} {g9 : (Int → Int)} {g10 : (Int → Int)} {g11 : (Int → Int)} {g12 : (Int → Int)} {g13 : (Int → Int)} {g14 : (Int → Int)} {g15 : (Int → Int)} {o : Int × Int × Int × Int × Int × Int × Int × Int × Int × Int × (Int → Int) × (Int → Int) × (Int → Int) × (Int → Int) × (Int → Int) × (Int → Int)} (h : zf_X_steered x1 x2 x3 x4 f0 f1 f5 f6 f7 f8 f9 f10 f11 f12 f13 f14 f15 f16 f17 f18 g0 g1 g2 g3 g4 g5 g6 g7 g8 g9 g10 g11 g12 g13 g14 g15 = some o) : zv_Fn z_TB z_cl z_KX zy_X_steered zxm151 (5, 300) [.inr 0, .inl x1, .inl x2, .inl x3, .inl x4] [.inl f0, .inl f1, .inr 5, .inr 1000, .inr 1000, .inl f5, .inl f6, .inl f7, .inl f8, .inl f9, .inl f10, .inl f11, .inl f12, .inl f13, .inl f14, .inl f15, .inl f16, .inl f17, .inl f18] [g0, g1, g2, g3, g4, g5, g6, g7, g8, g9, g10, g11, g12, g13, g14, g15] (some o.1) [.inl f0, .inl f1, .inr 5, .inr 1000, .inr 1000, .inl o.2.1, .inl o.2.2.1, .inl o.2.2.2.1, .inl o.2.2.2.2.1, .inl o.2.2.2.2.2.1, .inl f10, .inl f11, .inl o.2.2.2.2.2.2.1, .inl f13, .inl o.2.2.2.2.2.2.2.1, .inl f15, .inl o.2.2.2.2.2.2.2.2.1, .inl f17, .inl o.2.2.2.2.2.2.2.2.2.1] [o.2.2.2.2.2.2.2.2.2.2.1, o.2.2.2.2.2.2.2.2.2.2.2.1, o.2.2.2.2.2.2.2.2.2.2.2.2.1, o.2.2.2.2.2.2.2.2.2.2.2.2.2.1, o.2.2.2.2.2.2.2.2.2.2.2.2.2.2.1, g5, g6, g7, g8, g9, o.2.2.2.2.2.2.2.2.2.2.2.2.2.2.2, g11, g12, g13, g14, g15] := zv_meth (K := (z_KF0, z_KC0, z_KL0, z_KT0, [], [], [], none)) (FT := z_FT) (MT := z_MT) (n := 5) zxp151 (z_ks0 _ (fun _ h => List.mem_cons_of_mem _ h) _ _ _ _ (fun j r h _ => by cases h)) (fun _ _ => zs_KX_p) zyw_X_steered (fun va F G h => by obtain ⟨rfl, _⟩ := h; rfl) (fun va F G h => by obtain ⟨rfl, _⟩ := h; rfl) rfl fun good va F G hB hret hvret hP => by
  obtain ⟨rfl, rfl, rfl⟩ := hP
  have l0 : ∀ (n : Nat) (x1 : Int) (x2 : Int) (x3 : Int) (x4 : Int) (x5 : Int) (x6 : Int) (f5 : Int) (f6 : Int) (f7 : Int) (f8 : Int) (f9 : Int) (f12 : Int) (f14 : Int) (f16 : Int) (f18 : Int) (g0 : (Int → Int)) (g1 : (Int → Int)) (g2 : (Int → Int)) (g3 : (Int → Int)) (g4 : (Int → Int)) (g10 : (Int → Int)) (q : Int × Int × Int × Int × Int × Int × Int × Int × Int × Int × (Int → Int) × (Int → Int) × (Int → Int) × (Int → Int) × (Int → Int)), zf_X_steered_l0 x2 x3 x4 f1 f10 f11 f13 f15 f17 g5 g6 g7 g8 g9 g11 g12 g13 g14 g15 n x5 x6 f5 f6 f7 f8 f9 f12 f14 f16 f18 g1 g2 g3 g4 g10 = some q → (good 118 [.inr 0, .inl x1, .inr 1000, .inr 1000, .inr 1000, .inl q.1, .inr 1000] [] [.inl f0, .inl f1, .inr 5, .inr 1000, .inr 1000, .inl q.2.1, .inl q.2.2.1, .inl q.2.2.2.1, .inl q.2.2.2.2.1, .inl q.2.2.2.2.2.1, .inl f10, .inl f11, .inl q.2.2.2.2.2.2.1, .inl f13, .inl q.2.2.2.2.2.2.2.1, .inl f15, .inl q.2.2.2.2.2.2.2.2.1, .inl f17, .inl q.2.2.2.2.2.2.2.2.2.1] [g0, q.2.2.2.2.2.2.2.2.2.2.1, q.2.2.2.2.2.2.2.2.2.2.2.1, q.2.2.2.2.2.2.2.2.2.2.2.2.1, q.2.2.2.2.2.2.2.2.2.2.2.2.2.1, g5, g6, g7, g8, g9, q.2.2.2.2.2.2.2.2.2.2.2.2.2.2, g11, g12, g13, g14, g15]) → good 48 [.inr 0, .inl x1, .inl x2, .inl x3, .inl x4, .inl x5, .inl x6] [] [.inl f0, .inl f1, .inr 5, .inr 1000, .inr 1000, .inl f5, .inl f6, .inl f7, .inl f8, .inl f9, .inl f10, .inl f11, .inl f12, .inl f13, .inl f14, .inl f15, .inl f16, .inl f17, .inl f18] [g0, g1, g2, g3, g4, g5, g6, g7, g8, g9, g10, g11, g12, g13, g14, g15] := by
    intro n
    induction n with
    | zero => intro x1 x2 x3 x4 x5 x6 f5 f6 f7 f8 f9 f12 f14 f16 f18 g0 g1 g2 g3 g4 g10 q h; exact absurd (show none = some q from h) (fun h => by cases h)
    | succ n ih =>
      intro x1 x2 x3 x4 x5 x6 f5 f6 f7 f8 f9 f12 f14 f16 f18 g0 g1 g2 g3 g4 g10 q h hK
      replace h : zf_X_steered_l0_b x2 x3 x4 f1 f10 f11 f13 f15 f17 g5 g6 g7 g8 g9 g11 g12 g13 g14 g15 (zf_X_steered_l0 x2 x3 x4 f1 f10 f11 f13 f15 f17 g5 g6 g7 g8 g9 g11 g12 g13 g14 g15 n) x5 x6 f5 f6 f7 f8 f9 f12 f14 f16 f18 g1 g2 g3 g4 g10 = some q := h
      unfold zf_X_steered_l0_b at h
      refine zv_ild hB zd151_48 rfl rfl ?_
      refine zv_ild hB zd151_50 rfl rfl ?_
      refine zv_cge hB zd151_51 rfl (fun hc8 => ?_) (fun hc8 => ?_)
      · rw [if_neg (Int.not_lt.mpr hc8)] at h
        have hq := Option.some.inj h
        subst hq
        refine zv_wk hB (L' := [.inr 0, .inl x1, .inr 1000, .inr 1000, .inr 1000, .inl x5, .inr 1000]) (F' := [.inl f0, .inl f1, .inr 5, .inr 1000, .inr 1000, .inl f5, .inl f6, .inl f7, .inl f8, .inl f9, .inl f10, .inl f11, .inl f12, .inl f13, .inl f14, .inl f15, .inl f16, .inl f17, .inl f18]) ⟨fun _ => rfl, fun _ => rfl, fun (h : zv_is (.inr 1000)) => (Nat.lt_irrefl 1000 h).elim, fun (h : zv_is (.inr 1000)) => (Nat.lt_irrefl 1000 h).elim, fun (h : zv_is (.inr 1000)) => (Nat.lt_irrefl 1000 h).elim, fun _ => rfl, fun (h : zv_is (.inr 1000)) => (Nat.lt_irrefl 1000 h).elim, trivial⟩ ⟨fun _ => rfl, fun _ => rfl, fun _ => rfl, fun (h : zv_is (.inr 1000)) => (Nat.lt_irrefl 1000 h).elim, fun (h : zv_is (.inr 1000)) => (Nat.lt_irrefl 1000 h).elim, fun _ => rfl, fun _ => rfl, fun _ => rfl, fun _ => rfl, fun _ => rfl, fun _ => rfl, fun _ => rfl, fun _ => rfl, fun _ => rfl, fun _ => rfl, fun _ => rfl, fun _ => rfl, fun _ => rfl, fun _ => rfl, trivial⟩ ?_
        exact hK
      · rw [if_pos hc8] at h
        refine zv_ild hB zd151_54 rfl rfl ?_
        refine zv_zeq hB zd151_56 rfl (fun hc9 => ?_) (fun hc9 => ?_)
        · rw [if_pos hc9] at h
          refine zv_ald hB zd151_70 rfl rfl rfl ?_
          refine zv_getr hB zd151_71 rfl ?_
          refine zv_ald hB zd151_74 rfl rfl rfl ?_
          refine zv_getr hB zd151_75 rfl ?_
          refine zv_ald hB zd151_78 rfl rfl rfl ?_
          refine zv_getq hB zd151_79 rfl rfl rfl ?_
          obtain ⟨r10, hr10, h⟩ := zi_bind h
          refine zv_cv hB (zv_emq (va2 := [.inr 4, .inr 2, .inr 5]) (F := [.inl f0, .inl f1, .inr 5, .inr 1000, .inr 1000, .inl f5, .inl f6, .inl f7, .inl f8, .inl f9, .inl f10, .inl f11, .inl f12, .inl f13, .inl f14, .inl f15, .inl f16, .inl f17, .inl f18]) (F' := [.inl f0, .inl f1, .inr 5, .inr 2, .inr 5, .inl r10.1, .inl f6, .inl f7, .inl f8, .inl f9, .inl f10, .inl f11, .inl f12, .inl f13, .inl f14, .inl f15, .inl f16, .inl f17, .inl f18]) (G := [g0, g1, g2, g3, g4, g5, g6, g7, g8, g9, g10, g11, g12, g13, g14, g15]) (G' := [g0, r10.2, g2, g3, g4, g5, g6, g7, g8, g9, g10, g11, g12, g13, g14, g15]) (ρ := [4, 2, 5, 6]) (φ := [3, 4, 5]) (ψ := [1]) [none, none, none, some 0, some 1, some 2, none, none, none, none, none, none, none, none, none, none, none, none, none] [none, some 0, none, none, none, none, none, none, none, none, none, none, none, none, none, none] zyw_View_open zyw_X_steered zye_X_steered (by decide +kernel) (zt_View_open hr10) ⟨⟨_, rfl, fun (h : zv_is (.inr 1000)) => (Nat.lt_irrefl 1000 h).elim⟩, ⟨_, rfl, fun (h : zv_is (.inr 1000)) => (Nat.lt_irrefl 1000 h).elim⟩, ⟨_, rfl, fun _ => rfl⟩, trivial⟩ ⟨rfl, trivial⟩ rfl rfl rfl rfl rfl rfl rfl) zd151_82 zxt84 rfl (by decide) (by decide) rfl ?_
          refine zv_ald hB zd151_85 rfl rfl rfl ?_
          refine zv_getr hB zd151_86 rfl ?_
          refine zv_ald hB zd151_89 rfl rfl rfl ?_
          refine zv_getr hB zd151_90 rfl ?_
          refine zv_ald hB zd151_93 rfl rfl rfl ?_
          refine zv_getr hB zd151_94 rfl ?_
          refine zv_ild hB zd151_97 rfl rfl ?_
          refine zv_ild hB zd151_99 rfl rfl ?_
          obtain ⟨r11, hr11, h⟩ := zi_bind h
          refine zv_cv hB (zv_emq (va2 := [.inr 7, .inr 4, .inr 1, .inl x5, .inl x2]) (F := [.inl f0, .inl f1, .inr 5, .inr 2, .inr 5, .inl r10.1, .inl f6, .inl f7, .inl f8, .inl f9, .inl f10, .inl f11, .inl f12, .inl f13, .inl f14, .inl f15, .inl f16, .inl f17, .inl f18]) (F' := [.inl f0, .inl f1, .inr 5, .inr 2, .inr 5, .inl r11.2.2.2.1, .inl r11.2.1, .inl r11.2.2.1, .inl f8, .inl f9, .inl f10, .inl f11, .inl f12, .inl f13, .inl r11.2.2.2.2.1, .inl f15, .inl r11.2.2.2.2.2.1, .inl f17, .inl f18]) (G := [g0, r10.2, g2, g3, g4, g5, g6, g7, g8, g9, g10, g11, g12, g13, g14, g15]) (G' := [g0, r10.2, r11.2.2.2.2.2.2.1, g3, g4, g5, g6, g7, g8, g9, r11.2.2.2.2.2.2.2, g11, g12, g13, g14, g15]) (ρ := [7, 4, 1, 5, 8, 2, 9, 10, 11, 12, 13, 14, 15, 16, 17, 18]) (φ := [4, 3, 6, 7, 8, 9, 1, 10, 11, 12, 13, 5, 14, 15, 16, 17]) (ψ := [2, 3, 4, 5, 6, 7, 8, 9, 10, 11, 12]) [none, some 6, none, some 1, some 0, some 11, some 2, some 3, some 4, some 5, some 7, some 8, some 9, some 10, some 12, some 13, some 14, some 15, none] [none, none, some 0, some 1, some 2, some 3, some 4, some 5, some 6, some 7, some 8, some 9, some 10, none, none, none] zyw_Pilot_step zyw_X_steered zye_X_steered (by decide +kernel) (zt_Pilot_step hr11) ⟨⟨_, rfl, fun _ => rfl⟩, ⟨_, rfl, fun _ => rfl⟩, ⟨_, rfl, fun _ => rfl⟩, ⟨_, rfl, fun _ => rfl⟩, ⟨_, rfl, fun _ => rfl⟩, ⟨_, rfl, fun _ => rfl⟩, ⟨_, rfl, fun _ => rfl⟩, ⟨_, rfl, fun _ => rfl⟩, ⟨_, rfl, fun _ => rfl⟩, ⟨_, rfl, fun _ => rfl⟩, ⟨_, rfl, fun _ => rfl⟩, ⟨_, rfl, fun _ => rfl⟩, ⟨_, rfl, fun _ => rfl⟩, ⟨_, rfl, fun _ => rfl⟩, ⟨_, rfl, fun _ => rfl⟩, ⟨_, rfl, fun _ => rfl⟩, trivial⟩ ⟨rfl, rfl, rfl, rfl, rfl, rfl, rfl, rfl, rfl, rfl, rfl, trivial⟩ rfl rfl rfl rfl rfl rfl rfl) zd151_100 zxt153 rfl (by decide) (by decide) rfl ?_
          refine zv_ist hB zd151_103 rfl rfl rfl ?_
          refine zv_ald hB zd151_105 rfl rfl rfl ?_
          refine zv_getr hB zd151_106 rfl ?_
          obtain ⟨r12, hr12, h⟩ := zi_bind h
          refine zv_cv hB (zv_emq (va2 := [.inr 2]) (F := [.inl f0, .inl f1, .inr 5, .inr 2, .inr 5, .inl r11.2.2.2.1, .inl r11.2.1, .inl r11.2.2.1, .inl f8, .inl f9, .inl f10, .inl f11, .inl f12, .inl f13, .inl r11.2.2.2.2.1, .inl f15, .inl r11.2.2.2.2.2.1, .inl f17, .inl f18]) (F' := [.inl f0, .inl f1, .inr 5, .inr 2, .inr 5, .inl r11.2.2.2.1, .inl r11.2.1, .inl r11.2.2.1, .inl r12.1, .inl r12.2.1, .inl f10, .inl f11, .inl f12, .inl f13, .inl r11.2.2.2.2.1, .inl f15, .inl r11.2.2.2.2.2.1, .inl f17, .inl f18]) (G := [g0, r10.2, r11.2.2.2.2.2.2.1, g3, g4, g5, g6, g7, g8, g9, r11.2.2.2.2.2.2.2, g11, g12, g13, g14, g15]) (G' := [g0, r10.2, r11.2.2.2.2.2.2.1, r12.2.2.1, r12.2.2.2, g5, g6, g7, g8, g9, r11.2.2.2.2.2.2.2, g11, g12, g13, g14, g15]) (ρ := [2, 9, 19, 10, 20]) (φ := [8, 9]) (ψ := [3, 13, 4, 14]) [none, none, none, none, none, none, none, none, some 0, some 1, none, none, none, none, none, none, none, none, none] [none, none, none, some 0, some 2, none, none, none, none, none, none, none, none, some 1, some 3, none] zyw_Sky_passHour zyw_X_steered zye_X_steered (by decide +kernel) (zt_Sky_passHour hr12) ⟨⟨_, rfl, fun _ => rfl⟩, ⟨_, rfl, fun _ => rfl⟩, trivial⟩ ⟨rfl, rfl, rfl, rfl, trivial⟩ rfl rfl rfl rfl rfl rfl rfl) zd151_109 zxt155 rfl (by decide) (by decide) rfl ?_
          refine zv_iincw hB zd151_112 rfl rfl ?_
          refine zv_goto hB zd151_115 rfl ?_
          refine zv_wk hB (L' := [.inr 0, .inl x1, .inl x2, .inl x3, .inl x4, .inl r11.1, .inl (zi_w (x6 + 1))]) (F' := [.inl f0, .inl f1, .inr 5, .inr 1000, .inr 1000, .inl r11.2.2.2.1, .inl r11.2.1, .inl r11.2.2.1, .inl r12.1, .inl r12.2.1, .inl f10, .inl f11, .inl f12, .inl f13, .inl r11.2.2.2.2.1, .inl f15, .inl r11.2.2.2.2.2.1, .inl f17, .inl f18]) ⟨fun _ => rfl, fun _ => rfl, fun _ => rfl, fun _ => rfl, fun _ => rfl, fun _ => rfl, fun _ => rfl, trivial⟩ ⟨fun _ => rfl, fun _ => rfl, fun _ => rfl, fun (h : zv_is (.inr 1000)) => (Nat.lt_irrefl 1000 h).elim, fun (h : zv_is (.inr 1000)) => (Nat.lt_irrefl 1000 h).elim, fun _ => rfl, fun _ => rfl, fun _ => rfl, fun _ => rfl, fun _ => rfl, fun _ => rfl, fun _ => rfl, fun _ => rfl, fun _ => rfl, fun _ => rfl, fun _ => rfl, fun _ => rfl, fun _ => rfl, fun _ => rfl, trivial⟩ ?_
          exact ih _ _ _ _ _ _ _ _ _ _ _ _ _ _ _ _ _ _ _ _ _ q h hK
        · rw [if_neg hc9] at h
          refine zv_ald hB zd151_59 rfl rfl rfl ?_
          refine zv_getr hB zd151_60 rfl ?_
          refine zv_ald hB zd151_63 rfl rfl rfl ?_
          refine zv_getq hB zd151_64 rfl rfl rfl ?_
          obtain ⟨r13, hr13, h⟩ := zi_bind h
          refine zv_cv hB (zv_emq (va2 := [.inr 2, .inr 5]) (F := [.inl f0, .inl f1, .inr 5, .inr 1000, .inr 1000, .inl f5, .inl f6, .inl f7, .inl f8, .inl f9, .inl f10, .inl f11, .inl f12, .inl f13, .inl f14, .inl f15, .inl f16, .inl f17, .inl f18]) (F' := [.inl f0, .inl f1, .inr 5, .inr 1000, .inr 1000, .inl f5, .inl f6, .inl f7, .inl f8, .inl f9, .inl f10, .inl f11, .inl r13.2.2.1, .inl f13, .inl f14, .inl f15, .inl r13.2.1, .inl f17, .inl r13.1]) (G := [g0, g1, g2, g3, g4, g5, g6, g7, g8, g9, g10, g11, g12, g13, g14, g15]) (G' := [g0, g1, r13.2.2.2.1, g3, g4, g5, g6, g7, g8, g9, r13.2.2.2.2, g11, g12, g13, g14, g15]) (ρ := [2, 5, 8, 12, 13, 14, 15, 16, 17, 21]) (φ := [8, 9, 18, 15, 16, 12]) (ψ := [2, 6, 7, 8, 9, 10, 11, 15]) [none, none, none, none, none, none, none, none, some 0, some 1, none, none, some 5, none, none, some 3, some 4, none, some 2] [none, none, some 0, none, none, none, some 1, some 2, some 3, some 4, some 5, some 6, none, none, none, some 7] zyw_Sky_drawClouds zyw_X_steered zye_X_steered (by decide +kernel) (zt_Sky_drawClouds hr13) ⟨⟨_, rfl, fun _ => rfl⟩, ⟨_, rfl, fun _ => rfl⟩, ⟨_, rfl, fun _ => rfl⟩, ⟨_, rfl, fun _ => rfl⟩, ⟨_, rfl, fun _ => rfl⟩, ⟨_, rfl, fun _ => rfl⟩, trivial⟩ ⟨rfl, rfl, rfl, rfl, rfl, rfl, rfl, rfl, trivial⟩ rfl rfl rfl rfl rfl rfl rfl) zd151_67 zxt152 rfl (by decide) (by decide) rfl ?_
          refine zv_ald hB zd151_70 rfl rfl rfl ?_
          refine zv_getr hB zd151_71 rfl ?_
          refine zv_ald hB zd151_74 rfl rfl rfl ?_
          refine zv_getr hB zd151_75 rfl ?_
          refine zv_ald hB zd151_78 rfl rfl rfl ?_
          refine zv_getq hB zd151_79 rfl rfl rfl ?_
          obtain ⟨r14, hr14, h⟩ := zi_bind h
          refine zv_cv hB (zv_emq (va2 := [.inr 4, .inr 2, .inr 5]) (F := [.inl f0, .inl f1, .inr 5, .inr 1000, .inr 1000, .inl f5, .inl f6, .inl f7, .inl f8, .inl f9, .inl f10, .inl f11, .inl r13.2.2.1, .inl f13, .inl f14, .inl f15, .inl r13.2.1, .inl f17, .inl r13.1]) (F' := [.inl f0, .inl f1, .inr 5, .inr 2, .inr 5, .inl r14.1, .inl f6, .inl f7, .inl f8, .inl f9, .inl f10, .inl f11, .inl r13.2.2.1, .inl f13, .inl f14, .inl f15, .inl r13.2.1, .inl f17, .inl r13.1]) (G := [g0, g1, r13.2.2.2.1, g3, g4, g5, g6, g7, g8, g9, r13.2.2.2.2, g11, g12, g13, g14, g15]) (G' := [g0, r14.2, r13.2.2.2.1, g3, g4, g5, g6, g7, g8, g9, r13.2.2.2.2, g11, g12, g13, g14, g15]) (ρ := [4, 2, 5, 6]) (φ := [3, 4, 5]) (ψ := [1]) [none, none, none, some 0, some 1, some 2, none, none, none, none, none, none, none, none, none, none, none, none, none] [none, some 0, none, none, none, none, none, none, none, none, none, none, none, none, none, none] zyw_View_open zyw_X_steered zye_X_steered (by decide +kernel) (zt_View_open hr14) ⟨⟨_, rfl, fun (h : zv_is (.inr 1000)) => (Nat.lt_irrefl 1000 h).elim⟩, ⟨_, rfl, fun (h : zv_is (.inr 1000)) => (Nat.lt_irrefl 1000 h).elim⟩, ⟨_, rfl, fun _ => rfl⟩, trivial⟩ ⟨rfl, trivial⟩ rfl rfl rfl rfl rfl rfl rfl) zd151_82 zxt84 rfl (by decide) (by decide) rfl ?_
          refine zv_ald hB zd151_85 rfl rfl rfl ?_
          refine zv_getr hB zd151_86 rfl ?_
          refine zv_ald hB zd151_89 rfl rfl rfl ?_
          refine zv_getr hB zd151_90 rfl ?_
          refine zv_ald hB zd151_93 rfl rfl rfl ?_
          refine zv_getr hB zd151_94 rfl ?_
          refine zv_ild hB zd151_97 rfl rfl ?_
          refine zv_ild hB zd151_99 rfl rfl ?_
          obtain ⟨r15, hr15, h⟩ := zi_bind h
          refine zv_cv hB (zv_emq (va2 := [.inr 7, .inr 4, .inr 1, .inl x5, .inl x2]) (F := [.inl f0, .inl f1, .inr 5, .inr 2, .inr 5, .inl r14.1, .inl f6, .inl f7, .inl f8, .inl f9, .inl f10, .inl f11, .inl r13.2.2.1, .inl f13, .inl f14, .inl f15, .inl r13.2.1, .inl f17, .inl r13.1]) (F' := [.inl f0, .inl f1, .inr 5, .inr 2, .inr 5, .inl r15.2.2.2.1, .inl r15.2.1, .inl r15.2.2.1, .inl f8, .inl f9, .inl f10, .inl f11, .inl r13.2.2.1, .inl f13, .inl r15.2.2.2.2.1, .inl f15, .inl r15.2.2.2.2.2.1, .inl f17, .inl r13.1]) (G := [g0, r14.2, r13.2.2.2.1, g3, g4, g5, g6, g7, g8, g9, r13.2.2.2.2, g11, g12, g13, g14, g15]) (G' := [g0, r14.2, r15.2.2.2.2.2.2.1, g3, g4, g5, g6, g7, g8, g9, r15.2.2.2.2.2.2.2, g11, g12, g13, g14, g15]) (ρ := [7, 4, 1, 5, 8, 2, 9, 10, 11, 12, 13, 14, 15, 16, 17, 18]) (φ := [4, 3, 6, 7, 8, 9, 1, 10, 11, 12, 13, 5, 14, 15, 16, 17]) (ψ := [2, 3, 4, 5, 6, 7, 8, 9, 10, 11, 12]) [none, some 6, none, some 1, some 0, some 11, some 2, some 3, some 4, some 5, some 7, some 8, some 9, some 10, some 12, some 13, some 14, some 15, none] [none, none, some 0, some 1, some 2, some 3, some 4, some 5, some 6, some 7, some 8, some 9, some 10, none, none, none] zyw_Pilot_step zyw_X_steered zye_X_steered (by decide +kernel) (zt_Pilot_step hr15) ⟨⟨_, rfl, fun _ => rfl⟩, ⟨_, rfl, fun _ => rfl⟩, ⟨_, rfl, fun _ => rfl⟩, ⟨_, rfl, fun _ => rfl⟩, ⟨_, rfl, fun _ => rfl⟩, ⟨_, rfl, fun _ => rfl⟩, ⟨_, rfl, fun _ => rfl⟩, ⟨_, rfl, fun _ => rfl⟩, ⟨_, rfl, fun _ => rfl⟩, ⟨_, rfl, fun _ => rfl⟩, ⟨_, rfl, fun _ => rfl⟩, ⟨_, rfl, fun _ => rfl⟩, ⟨_, rfl, fun _ => rfl⟩, ⟨_, rfl, fun _ => rfl⟩, ⟨_, rfl, fun _ => rfl⟩, ⟨_, rfl, fun _ => rfl⟩, trivial⟩ ⟨rfl, rfl, rfl, rfl, rfl, rfl, rfl, rfl, rfl, rfl, rfl, trivial⟩ rfl rfl rfl rfl rfl rfl rfl) zd151_100 zxt153 rfl (by decide) (by decide) rfl ?_
          refine zv_ist hB zd151_103 rfl rfl rfl ?_
          refine zv_ald hB zd151_105 rfl rfl rfl ?_
          refine zv_getr hB zd151_106 rfl ?_
          obtain ⟨r16, hr16, h⟩ := zi_bind h
          refine zv_cv hB (zv_emq (va2 := [.inr 2]) (F := [.inl f0, .inl f1, .inr 5, .inr 2, .inr 5, .inl r15.2.2.2.1, .inl r15.2.1, .inl r15.2.2.1, .inl f8, .inl f9, .inl f10, .inl f11, .inl r13.2.2.1, .inl f13, .inl r15.2.2.2.2.1, .inl f15, .inl r15.2.2.2.2.2.1, .inl f17, .inl r13.1]) (F' := [.inl f0, .inl f1, .inr 5, .inr 2, .inr 5, .inl r15.2.2.2.1, .inl r15.2.1, .inl r15.2.2.1, .inl r16.1, .inl r16.2.1, .inl f10, .inl f11, .inl r13.2.2.1, .inl f13, .inl r15.2.2.2.2.1, .inl f15, .inl r15.2.2.2.2.2.1, .inl f17, .inl r13.1]) (G := [g0, r14.2, r15.2.2.2.2.2.2.1, g3, g4, g5, g6, g7, g8, g9, r15.2.2.2.2.2.2.2, g11, g12, g13, g14, g15]) (G' := [g0, r14.2, r15.2.2.2.2.2.2.1, r16.2.2.1, r16.2.2.2, g5, g6, g7, g8, g9, r15.2.2.2.2.2.2.2, g11, g12, g13, g14, g15]) (ρ := [2, 9, 19, 10, 20]) (φ := [8, 9]) (ψ := [3, 13, 4, 14]) [none, none, none, none, none, none, none, none, some 0, some 1, none, none, none, none, none, none, none, none, none] [none, none, none, some 0, some 2, none, none, none, none, none, none, none, none, some 1, some 3, none] zyw_Sky_passHour zyw_X_steered zye_X_steered (by decide +kernel) (zt_Sky_passHour hr16) ⟨⟨_, rfl, fun _ => rfl⟩, ⟨_, rfl, fun _ => rfl⟩, trivial⟩ ⟨rfl, rfl, rfl, rfl, trivial⟩ rfl rfl rfl rfl rfl rfl rfl) zd151_109 zxt155 rfl (by decide) (by decide) rfl ?_
          refine zv_iincw hB zd151_112 rfl rfl ?_
          refine zv_goto hB zd151_115 rfl ?_
          refine zv_wk hB (L' := [.inr 0, .inl x1, .inl x2, .inl x3, .inl x4, .inl r15.1, .inl (zi_w (x6 + 1))]) (F' := [.inl f0, .inl f1, .inr 5, .inr 1000, .inr 1000, .inl r15.2.2.2.1, .inl r15.2.1, .inl r15.2.2.1, .inl r16.1, .inl r16.2.1, .inl f10, .inl f11, .inl r13.2.2.1, .inl f13, .inl r15.2.2.2.2.1, .inl f15, .inl r15.2.2.2.2.2.1, .inl f17, .inl r13.1]) ⟨fun _ => rfl, fun _ => rfl, fun _ => rfl, fun _ => rfl, fun _ => rfl, fun _ => rfl, fun _ => rfl, trivial⟩ ⟨fun _ => rfl, fun _ => rfl, fun _ => rfl, fun (h : zv_is (.inr 1000)) => (Nat.lt_irrefl 1000 h).elim, fun (h : zv_is (.inr 1000)) => (Nat.lt_irrefl 1000 h).elim, fun _ => rfl, fun _ => rfl, fun _ => rfl, fun _ => rfl, fun _ => rfl, fun _ => rfl, fun _ => rfl, fun _ => rfl, fun _ => rfl, fun _ => rfl, fun _ => rfl, fun _ => rfl, fun _ => rfl, fun _ => rfl, trivial⟩ ?_
          exact ih _ _ _ _ _ _ _ _ _ _ _ _ _ _ _ _ _ _ _ _ _ q h hK
  unfold zf_X_steered at h
  refine zv_ald hB zd151_0 rfl rfl rfl ?_
  refine zv_getr hB zd151_1 rfl ?_
  refine zv_ild hB zd151_4 rfl rfl ?_
  obtain ⟨r1, hr1, h⟩ := zi_bind h
  refine zv_cv hB (zv_emq (va2 := [.inr 1, .inl x1]) (F := [.inl f0, .inl f1, .inr 5, .inr 1000, .inr 1000, .inl f5, .inl f6, .inl f7, .inl f8, .inl f9, .inl f10, .inl f11, .inl f12, .inl f13, .inl f14, .inl f15, .inl f16, .inl f17, .inl f18]) (F' := [.inl f0, .inl f1, .inr 5, .inr 1000, .inr 1000, .inl f5, .inl f6, .inl f7, .inl f8, .inl f9, .inl f10, .inl f11, .inl f12, .inl f13, .inl f14, .inl f15, .inl f16, .inl f17, .inl f18]) (G := [g0, g1, g2, g3, g4, g5, g6, g7, g8, g9, g10, g11, g12, g13, g14, g15]) (G' := [g0, g1, g2, g3, g4, g5, g6, g7, g8, g9, g10, g11, g12, g13, g14, g15]) (ρ := [1]) (φ := [0]) (ψ := []) [some 0, none, none, none, none, none, none, none, none, none, none, none, none, none, none, none, none, none, none] [none, none, none, none, none, none, none, none, none, none, none, none, none, none, none, none] zyw_Sea_hasShip zyw_X_steered zye_X_steered (by decide +kernel) (zt_Sea_hasShip hr1) ⟨⟨_, rfl, fun _ => rfl⟩, trivial⟩ trivial rfl rfl rfl rfl rfl rfl rfl) zd151_5 zxt26 rfl (by decide) (by decide) rfl ?_
  refine zv_zeq hB zd151_8 rfl (fun hc2 => ?_) (fun hc2 => ?_)
  · rw [if_pos hc2] at h
    refine zv_con hB zd151_32 rfl ?_
    have hw := Option.some.inj h
    subst hw
    exact hret _ _ _ _ _ zd151_33 (by trivial) ⟨rfl, rfl, rfl⟩
  · rw [if_neg hc2] at h
    refine zv_ald hB zd151_11 rfl rfl rfl ?_
    refine zv_getr hB zd151_12 rfl ?_
    refine zv_ild hB zd151_15 rfl rfl ?_
    obtain ⟨r3, hr3, h⟩ := zi_bind h
    refine zv_cv hB (zv_emq (va2 := [.inr 2, .inl x2]) (F := [.inl f0, .inl f1, .inr 5, .inr 1000, .inr 1000, .inl f5, .inl f6, .inl f7, .inl f8, .inl f9, .inl f10, .inl f11, .inl f12, .inl f13, .inl f14, .inl f15, .inl f16, .inl f17, .inl f18]) (F' := [.inl f0, .inl f1, .inr 5, .inr 1000, .inr 1000, .inl f5, .inl f6, .inl f7, .inl f8, .inl f9, .inl f10, .inl f11, .inl f12, .inl f13, .inl f14, .inl f15, .inl f16, .inl f17, .inl f18]) (G := [g0, g1, g2, g3, g4, g5, g6, g7, g8, g9, g10, g11, g12, g13, g14, g15]) (G' := [g0, g1, g2, g3, g4, g5, g6, g7, g8, g9, g10, g11, g12, g13, g14, g15]) (ρ := [2]) (φ := [1]) (ψ := []) [none, some 0, none, none, none, none, none, none, none, none, none, none, none, none, none, none, none, none, none] [none, none, none, none, none, none, none, none, none, none, none, none, none, none, none, none] zyw_Sky_hasStar zyw_X_steered zye_X_steered (by decide +kernel) (zt_Sky_hasStar hr3) ⟨⟨_, rfl, fun _ => rfl⟩, trivial⟩ trivial rfl rfl rfl rfl rfl rfl rfl) zd151_16 zxt18 rfl (by decide) (by decide) rfl ?_
    refine zv_zeq hB zd151_19 rfl (fun hc4 => ?_) (fun hc4 => ?_)
    · rw [if_pos hc4] at h
      refine zv_con hB zd151_32 rfl ?_
      have hw := Option.some.inj h
      subst hw
      exact hret _ _ _ _ _ zd151_33 (by trivial) ⟨rfl, rfl, rfl⟩
    · rw [if_neg hc4] at h
      refine zv_ild hB zd151_22 rfl rfl ?_
      refine zv_con hB zd151_23 rfl ?_
      refine zv_con hB zd151_24 rfl ?_
      obtain ⟨r5, hr5, h⟩ := zi_bind h
      refine zv_cs hB (zv_emq (va2 := [.inl x3, .inl 1, .inl 48]) (F := [.inl f0, .inl f1, .inr 5, .inr 1000, .inr 1000, .inl f5, .inl f6, .inl f7, .inl f8, .inl f9, .inl f10, .inl f11, .inl f12, .inl f13, .inl f14, .inl f15, .inl f16, .inl f17, .inl f18]) (F' := [.inl f0, .inl f1, .inr 5, .inr 1000, .inr 1000, .inl f5, .inl f6, .inl f7, .inl f8, .inl f9, .inl f10, .inl f11, .inl f12, .inl f13, .inl f14, .inl f15, .inl f16, .inl f17, .inl f18]) (G := [g0, g1, g2, g3, g4, g5, g6, g7, g8, g9, g10, g11, g12, g13, g14, g15]) (G' := [g0, g1, g2, g3, g4, g5, g6, g7, g8, g9, g10, g11, g12, g13, g14, g15]) (ρ := []) (φ := []) (ψ := []) [none, none, none, none, none, none, none, none, none, none, none, none, none, none, none, none, none, none, none] [none, none, none, none, none, none, none, none, none, none, none, none, none, none, none, none] zyw_X_isWithin zyw_X_steered zye_X_steered (by decide +kernel) (zt_X_isWithin hr5) trivial trivial rfl rfl rfl rfl rfl rfl rfl) zd151_26 zxt15 rfl (by decide) (by decide) rfl ?_
      refine zv_zne hB zd151_29 rfl (fun hc6 => ?_) (fun hc6 => ?_)
      · rw [if_neg hc6] at h
        refine zv_ald hB zd151_34 rfl rfl rfl ?_
        refine zv_getr hB zd151_35 rfl ?_
        refine zv_getr hB zd151_38 rfl ?_
        refine zv_ild hB zd151_41 rfl rfl ?_
        obtain ⟨c7, h⟩ := zi_if h
        refine zv_iald hB zd151_42 rfl rfl (zi_ix_ok c7).1 (zi_ix_ok c7).2 (fun _ _ => ?_)
        refine zv_ist hB zd151_43 rfl rfl rfl ?_
        refine zv_con hB zd151_45 rfl ?_
        refine zv_ist hB zd151_46 rfl rfl rfl ?_
        obtain ⟨q17, hq17, h⟩ := zi_bind h
        refine l0 _ _ _ _ _ _ _ _ _ _ _ _ _ _ _ _ _ _ _ _ _ _ q17 hq17 ?_
        show good 118 [.inr 0, .inl x1, .inr 1000, .inr 1000, .inr 1000, .inl q17.1, .inr 1000] [] [.inl f0, .inl f1, .inr 5, .inr 1000, .inr 1000, .inl q17.2.1, .inl q17.2.2.1, .inl q17.2.2.2.1, .inl q17.2.2.2.2.1, .inl q17.2.2.2.2.2.1, .inl f10, .inl f11, .inl q17.2.2.2.2.2.2.1, .inl f13, .inl q17.2.2.2.2.2.2.2.1, .inl f15, .inl q17.2.2.2.2.2.2.2.2.1, .inl f17, .inl q17.2.2.2.2.2.2.2.2.2.1] [g0, q17.2.2.2.2.2.2.2.2.2.2.1, q17.2.2.2.2.2.2.2.2.2.2.2.1, q17.2.2.2.2.2.2.2.2.2.2.2.2.1, q17.2.2.2.2.2.2.2.2.2.2.2.2.2.1, g5, g6, g7, g8, g9, q17.2.2.2.2.2.2.2.2.2.2.2.2.2.2, g11, g12, g13, g14, g15]
        refine zv_ald hB zd151_118 rfl rfl rfl ?_
        refine zv_getr hB zd151_119 rfl ?_
        refine zv_getr hB zd151_122 rfl ?_
        refine zv_ild hB zd151_125 rfl rfl ?_
        refine zv_ild hB zd151_126 rfl rfl ?_
        refine zv_iast hB zd151_128 rfl rfl (zi_ix_ok c7).1 (zi_ix_ok c7).2 ?_
        refine zv_ild hB zd151_129 rfl rfl ?_
        have hw := Option.some.inj h
        subst hw
        exact hret _ _ _ _ _ zd151_131 (by trivial) ⟨rfl, rfl, rfl⟩
      · rw [if_pos hc6] at h
        refine zv_con hB zd151_32 rfl ?_
        have hw := Option.some.inj h
        subst hw
        exact hret _ _ _ _ _ zd151_33 (by trivial) ⟨rfl, rfl, rfl⟩
/-! X_hours (I)I -/
-- names: 0 StarTales('arg', 0), 1 Sky(0, 0, 0), 2 (0, 24)(1, 1, 1), 3 (0, 24)(1, 1, 4), 4 (0, 24)(1, 1, 2), 5 (0, 24)(1, 1, 5)
-- fields: f0 = 1.hour_, f1 = 1.night_; arrays: g0 = 2, g1 = 3, g2 = 4, g3 = 5; out: [('ret', None), ('f', 0), ('f', 1), ('g', 0), ('g', 2)]
abbrev zy_X_hours : zNL := (6, [(0, 0), (1, 1)], [(1, 1, 6, 0), (1, 1, 7, 1)], [(0, 0, 0, 1), (1, 1, 1, 2), (1, 1, 4, 3), (1, 1, 2, 4), (1, 1, 5, 5)], [(2, 0, 24, 0), (3, 0, 24, 1), (4, 0, 24, 2), (5, 0, 24, 3)])
theorem zyw_X_hours : zv_wf zy_X_hours = true := by decide +kernel
theorem zye_X_hours : zv_ek2 zy_X_hours = true := by decide +kernel
def zf_X_hours_l0_b (x1 : Int) (g1 : (Int → Int)) (g3 : (Int → Int)) (rec : Int → Int → Int → (Int → Int) → (Int → Int) → Option (Int × Int × (Int → Int) × (Int → Int))) (x2 : Int) (f0 : Int) (f1 : Int) (g0 : (Int → Int)) (g2 : (Int → Int)) : Option (Int × Int × (Int → Int) × (Int → Int)) := if x2 < x1 then ((zf_Sky_passHour f0 f1 g0 g1 g2 g3).bind fun r4 => (rec (zi_w (x2 + 1)) r4.1 r4.2.1 r4.2.2.1 r4.2.2.2)) else (some (f0, f1, g0, g2))
def zf_X_hours_l0 (x1 : Int) (g1 : (Int → Int)) (g3 : (Int → Int)) : Nat → Int → Int → Int → (Int → Int) → (Int → Int) → Option (Int × Int × (Int → Int) × (Int → Int))
  | 0, _, _, _, _, _ => none
  | n + 1, x2, f0, f1, g0, g2 => zf_X_hours_l0_b x1 g1 g3 (zf_X_hours_l0 x1 g1 g3 n) x2 f0 f1 g0 g2
def zf_X_hours (x1 : Int) (f0 : Int) (f1 : Int) (g0 : (Int → Int)) (g1 : (Int → Int)) (g2 : (Int → Int)) (g3 : (Int → Int)) : Option (Int × Int × Int × (Int → Int) × (Int → Int)) := (zf_X_isWithin x1 1 240).bind fun r1 => (if r1 = 0 then (some ((-1), f0, f1, g0, g2)) else ((zf_X_hours_l0 x1 g1 g3 zi_fu 0 f0 f1 g0 g2).bind fun q5 => (some (q5.2.1, q5.1, q5.2.1, q5.2.2.1, q5.2.2.2))))
theorem zd159_0 : decode zxm159.2.1 0 = .ok (.iload_n 1, 1) := by decide +kernel
theorem zd159_1 : decode zxm159.2.1 1 = .ok (.iconst 1, 1) := by decide +kernel
theorem zd159_2 : decode zxm159.2.1 2 = .ok (.sipush 240, 3) := by decide +kernel
theorem zd159_5 : decode zxm159.2.1 5 = .ok (.invokestatic 126, 3) := by decide +kernel
theorem zd159_8 : decode zxm159.2.1 8 = .ok (.ifCond .ne 5, 3) := by decide +kernel
theorem zd159_11 : decode zxm159.2.1 11 = .ok (.iconst (-1), 1) := by decide +kernel
theorem zd159_12 : decode zxm159.2.1 12 = .ok (.ireturn, 1) := by decide +kernel
theorem zd159_13 : decode zxm159.2.1 13 = .ok (.iconst 0, 1) := by decide +kernel
theorem zd159_14 : decode zxm159.2.1 14 = .ok (.istore_n 2, 1) := by decide +kernel
theorem zd159_15 : decode zxm159.2.1 15 = .ok (.iload_n 2, 1) := by decide +kernel
theorem zd159_16 : decode zxm159.2.1 16 = .ok (.iload_n 1, 1) := by decide +kernel
theorem zd159_17 : decode zxm159.2.1 17 = .ok (.if_icmp .ge 16, 3) := by decide +kernel
theorem zd159_20 : decode zxm159.2.1 20 = .ok (.aload_n 0, 1) := by decide +kernel
theorem zd159_21 : decode zxm159.2.1 21 = .ok (.getfield 10, 3) := by decide +kernel
theorem zd159_24 : decode zxm159.2.1 24 = .ok (.invokevirtual 334, 3) := by decide +kernel
theorem zd159_27 : decode zxm159.2.1 27 = .ok (.iinc 2 1, 3) := by decide +kernel
theorem zd159_30 : decode zxm159.2.1 30 = .ok (.goto (-15), 3) := by decide +kernel
theorem zd159_33 : decode zxm159.2.1 33 = .ok (.aload_n 0, 1) := by decide +kernel
theorem zd159_34 : decode zxm159.2.1 34 = .ok (.getfield 10, 3) := by decide +kernel
theorem zd159_37 : decode zxm159.2.1 37 = .ok (.getfield 337, 3) := by decide +kernel
theorem zd159_40 : decode zxm159.2.1 40 = .ok (.ireturn, 1) := by decide +kernel
theorem zt_X_hours {x1 : Int} {f0 : Int} {f1 : Int} {g0 : (Int → Int)} {g1 : (Int → Int)} {g2 : (Int → Int)} {g3 : (Int → Int)} {o : Int × Int × Int × (Int → Int) × (Int → Int)} (h : zf_X_hours x1 f0 f1 g0 g1 g2 g3 = some o) : zv_Fn z_TB z_cl z_KX zy_X_hours zxm159 (4, 240) [.inr 0, .inl x1] [.inl f0, .inl f1] [g0, g1, g2, g3] (some o.1) [.inl o.2.1, .inl o.2.2.1] [o.2.2.2.1, g1, o.2.2.2.2, g3] := zv_meth (K := (z_KF0, z_KC0, z_KL0, z_KT0, [], [], [], none)) (FT := z_FT) (MT := z_MT) (n := 2) zxp159 (z_ks0 _ (fun _ h => List.mem_cons_of_mem _ h) _ _ _ _ (fun j r h _ => by cases h)) (fun _ _ => zs_KX_p) zyw_X_hours (fun va F G h => by obtain ⟨rfl, _⟩ := h; rfl) (fun va F G h => by obtain ⟨rfl, _⟩ := h; rfl) rfl fun good va F G hB hret hvret hP => by
  obtain ⟨rfl, rfl, rfl⟩ := hP
  have l0 : ∀ (n : Nat) (x1 : Int) (x2 : Int) (f0 : Int) (f1 : Int) (g0 : (Int → Int)) (g2 : (Int → Int)) (q : Int × Int × (Int → Int) × (Int → Int)), zf_X_hours_l0 x1 g1 g3 n x2 f0 f1 g0 g2 = some q → (good 33 [.inr 0, .inr 1000, .inr 1000] [] [.inl q.1, .inl q.2.1] [q.2.2.1, g1, q.2.2.2, g3]) → good 15 [.inr 0, .inl x1, .inl x2] [] [.inl f0, .inl f1] [g0, g1, g2, g3] := by
    intro n
    induction n with
    | zero => intro x1 x2 f0 f1 g0 g2 q h; exact absurd (show none = some q from h) (fun h => by cases h)
    | succ n ih =>
      intro x1 x2 f0 f1 g0 g2 q h hK
      replace h : zf_X_hours_l0_b x1 g1 g3 (zf_X_hours_l0 x1 g1 g3 n) x2 f0 f1 g0 g2 = some q := h
      unfold zf_X_hours_l0_b at h
      refine zv_ild hB zd159_15 rfl rfl ?_
      refine zv_ild hB zd159_16 rfl rfl ?_
      refine zv_cge hB zd159_17 rfl (fun hc3 => ?_) (fun hc3 => ?_)
      · rw [if_neg (Int.not_lt.mpr hc3)] at h
        have hq := Option.some.inj h
        subst hq
        refine zv_wk hB (L' := [.inr 0, .inr 1000, .inr 1000]) (F' := [.inl f0, .inl f1]) ⟨fun _ => rfl, fun (h : zv_is (.inr 1000)) => (Nat.lt_irrefl 1000 h).elim, fun (h : zv_is (.inr 1000)) => (Nat.lt_irrefl 1000 h).elim, trivial⟩ ⟨fun _ => rfl, fun _ => rfl, trivial⟩ ?_
        exact hK
      · rw [if_pos hc3] at h
        refine zv_ald hB zd159_20 rfl rfl rfl ?_
        refine zv_getr hB zd159_21 rfl ?_
        obtain ⟨r4, hr4, h⟩ := zi_bind h
        refine zv_cv hB (zv_emq (va2 := [.inr 1]) (F := [.inl f0, .inl f1]) (F' := [.inl r4.1, .inl r4.2.1]) (G := [g0, g1, g2, g3]) (G' := [r4.2.2.1, g1, r4.2.2.2, g3]) (ρ := [1, 2, 3, 4, 5]) (φ := [0, 1]) (ψ := [0, 1, 2, 3]) [some 0, some 1] [some 0, some 1, some 2, some 3] zyw_Sky_passHour zyw_X_hours zye_X_hours (by decide +kernel) (zt_Sky_passHour hr4) ⟨⟨_, rfl, fun _ => rfl⟩, ⟨_, rfl, fun _ => rfl⟩, trivial⟩ ⟨rfl, rfl, rfl, rfl, trivial⟩ rfl rfl rfl rfl rfl rfl rfl) zd159_24 zxt155 rfl (by decide) (by decide) rfl ?_
        refine zv_iincw hB zd159_27 rfl rfl ?_
        refine zv_goto hB zd159_30 rfl ?_
        exact ih _ _ _ _ _ _ q h hK
  unfold zf_X_hours at h
  refine zv_ild hB zd159_0 rfl rfl ?_
  refine zv_con hB zd159_1 rfl ?_
  refine zv_con hB zd159_2 rfl ?_
  obtain ⟨r1, hr1, h⟩ := zi_bind h
  refine zv_cs hB (zv_emq (va2 := [.inl x1, .inl 1, .inl 240]) (F := [.inl f0, .inl f1]) (F' := [.inl f0, .inl f1]) (G := [g0, g1, g2, g3]) (G' := [g0, g1, g2, g3]) (ρ := []) (φ := []) (ψ := []) [none, none] [none, none, none, none] zyw_X_isWithin zyw_X_hours zye_X_hours (by decide +kernel) (zt_X_isWithin hr1) trivial trivial rfl rfl rfl rfl rfl rfl rfl) zd159_5 zxt15 rfl (by decide) (by decide) rfl ?_
  refine zv_zne hB zd159_8 rfl (fun hc2 => ?_) (fun hc2 => ?_)
  · rw [if_neg hc2] at h
    refine zv_con hB zd159_13 rfl ?_
    refine zv_ist hB zd159_14 rfl rfl rfl ?_
    obtain ⟨q5, hq5, h⟩ := zi_bind h
    refine l0 _ _ _ _ _ _ _ q5 hq5 ?_
    show good 33 [.inr 0, .inr 1000, .inr 1000] [] [.inl q5.1, .inl q5.2.1] [q5.2.2.1, g1, q5.2.2.2, g3]
    refine zv_ald hB zd159_33 rfl rfl rfl ?_
    refine zv_getr hB zd159_34 rfl ?_
    refine zv_getf hB zd159_37 rfl rfl (fun _ _ => ?_)
    have hw := Option.some.inj h
    subst hw
    exact hret _ _ _ _ _ zd159_40 (by trivial) ⟨rfl, rfl, rfl⟩
  · rw [if_pos hc2] at h
    refine zv_con hB zd159_11 rfl ?_
    have hw := Option.some.inj h
    subst hw
    exact hret _ _ _ _ _ zd159_12 (by trivial) ⟨rfl, rfl, rfl⟩
end
section
/-! Methods as functions, and that they do what these do. -/
/-! X_found ()I -/
-- names: 0 StarTales('arg', 0), 1 Sky(0, 0, 0), 2 Tape(0, 0, 6), 3 (0, 220)(2, 3, 0), 4 (0, 24)(1, 1, 1), 5 (0, 24)(1, 1, 4), 6 (0, 24)(1, 1, 2), 7 (0, 24)(1, 1, 5)
-- fields: f0 = 1.told_, f1 = 2.size_; arrays: g0 = 3, g1 = 4, g2 = 5, g3 = 6, g4 = 7; out: [('ret', None), ('f', 1)]
abbrev zy_X_found : zNL := (8, [(0, 0), (1, 1), (2, 3)], [(1, 1, 0, 0), (2, 3, 1, 1)], [(0, 0, 0, 1), (0, 0, 6, 2), (2, 3, 0, 3), (1, 1, 1, 4), (1, 1, 4, 5), (1, 1, 2, 6), (1, 1, 5, 7)], [(3, 0, 220, 0), (4, 0, 24, 1), (5, 0, 24, 2), (6, 0, 24, 3), (7, 0, 24, 4)])
theorem zyw_X_found : zv_wf zy_X_found = true := by decide +kernel
theorem zye_X_found : zv_ek2 zy_X_found = true := by decide +kernel
def zf_X_found_l0_b (f0 : Int) (g0 : (Int → Int)) (g1 : (Int → Int)) (g2 : (Int → Int)) (g3 : (Int → Int)) (g4 : (Int → Int)) (rec : Int → Int → Int → Option (Int)) (x1 : Int) (x2 : Int) (x3 : Int) : Option (Int) := if x3 < 24 then ((zf_Sky_hasStar x3 f0).bind fun r6 => (if r6 = 0 then (rec x1 x2 (zi_w (x3 + 1))) else ((zf_Tape_byteAt x2 g0).bind fun r8 => ((zf_Sky_columnNextNight x3 g1 g2).bind fun r9 => (if r8 = r9 then ((zf_Tape_byteAt (zi_w (x2 + 1)) g0).bind fun r12 => ((zf_Sky_rowNextNight x3 g3 g4).bind fun r13 => (if r12 = r13 then (rec x1 (zi_w (x2 + 2)) (zi_w (x3 + 1))) else (rec (zi_or x1 (zi_shl 1 x3)) (zi_w (x2 + 2)) (zi_w (x3 + 1)))))) else (rec (zi_or x1 (zi_shl 1 x3)) (zi_w (x2 + 2)) (zi_w (x3 + 1)))))))) else (some x1)
def zf_X_found_l0 (f0 : Int) (g0 : (Int → Int)) (g1 : (Int → Int)) (g2 : (Int → Int)) (g3 : (Int → Int)) (g4 : (Int → Int)) : Nat → Int → Int → Int → Option (Int)
  | 0, _, _, _ => none
  | n + 1, x1, x2, x3 => zf_X_found_l0_b f0 g0 g1 g2 g3 g4 (zf_X_found_l0 f0 g0 g1 g2 g3 g4 n) x1 x2 x3
def zf_X_found (f0 : Int) (f1 : Int) (g0 : (Int → Int)) (g1 : (Int → Int)) (g2 : (Int → Int)) (g3 : (Int → Int)) (g4 : (Int → Int)) : Option (Int × Int) := if f0 = 0 then (some ((-1), f1)) else ((zf_Integer_bitCount f0).bind fun r2 => ((zf_Tape_take (zi_w (2 * r2)) f1).bind fun r3 => (if r3.1 = 0 then (some ((-1), r3.2)) else ((zf_X_found_l0 f0 g0 g1 g2 g3 g4 zi_fu 0 0 0).bind fun q17 => (some (q17, r3.2))))))
theorem zd160_0 : decode zxm160.2.1 0 = .ok (.aload_n 0, 1) := by decide +kernel
theorem zd160_1 : decode zxm160.2.1 1 = .ok (.getfield 10, 3) := by decide +kernel
theorem zd160_4 : decode zxm160.2.1 4 = .ok (.getfield 134, 3) := by decide +kernel
theorem zd160_7 : decode zxm160.2.1 7 = .ok (.ifCond .eq 25, 3) := by decide +kernel
theorem zd160_10 : decode zxm160.2.1 10 = .ok (.aload_n 0, 1) := by decide +kernel
theorem zd160_11 : decode zxm160.2.1 11 = .ok (.getfield 39, 3) := by decide +kernel
theorem zd160_14 : decode zxm160.2.1 14 = .ok (.iconst 2, 1) := by decide +kernel
theorem zd160_15 : decode zxm160.2.1 15 = .ok (.aload_n 0, 1) := by decide +kernel
theorem zd160_16 : decode zxm160.2.1 16 = .ok (.getfield 10, 3) := by decide +kernel
theorem zd160_19 : decode zxm160.2.1 19 = .ok (.getfield 134, 3) := by decide +kernel
theorem zd160_22 : decode zxm160.2.1 22 = .ok (.invokestatic 235, 3) := by decide +kernel
theorem zd160_25 : decode zxm160.2.1 25 = .ok (.imul, 1) := by decide +kernel
theorem zd160_26 : decode zxm160.2.1 26 = .ok (.invokevirtual 197, 3) := by decide +kernel
theorem zd160_29 : decode zxm160.2.1 29 = .ok (.ifCond .ne 5, 3) := by decide +kernel
theorem zd160_32 : decode zxm160.2.1 32 = .ok (.iconst (-1), 1) := by decide +kernel
theorem zd160_33 : decode zxm160.2.1 33 = .ok (.ireturn, 1) := by decide +kernel
theorem zd160_34 : decode zxm160.2.1 34 = .ok (.iconst 0, 1) := by decide +kernel
theorem zd160_35 : decode zxm160.2.1 35 = .ok (.istore_n 1, 1) := by decide +kernel
theorem zd160_36 : decode zxm160.2.1 36 = .ok (.iconst 0, 1) := by decide +kernel
theorem zd160_37 : decode zxm160.2.1 37 = .ok (.istore_n 2, 1) := by decide +kernel
theorem zd160_38 : decode zxm160.2.1 38 = .ok (.iconst 0, 1) := by decide +kernel
theorem zd160_39 : decode zxm160.2.1 39 = .ok (.istore_n 3, 1) := by decide +kernel
theorem zd160_40 : decode zxm160.2.1 40 = .ok (.iload_n 3, 1) := by decide +kernel
theorem zd160_41 : decode zxm160.2.1 41 = .ok (.bipush 24, 2) := by decide +kernel
theorem zd160_43 : decode zxm160.2.1 43 = .ok (.if_icmp .ge 81, 3) := by decide +kernel
theorem zd160_46 : decode zxm160.2.1 46 = .ok (.aload_n 0, 1) := by decide +kernel
theorem zd160_47 : decode zxm160.2.1 47 = .ok (.getfield 10, 3) := by decide +kernel
theorem zd160_50 : decode zxm160.2.1 50 = .ok (.iload_n 3, 1) := by decide +kernel
theorem zd160_51 : decode zxm160.2.1 51 = .ok (.invokevirtual 153, 3) := by decide +kernel
theorem zd160_54 : decode zxm160.2.1 54 = .ok (.ifCond .eq 64, 3) := by decide +kernel
theorem zd160_57 : decode zxm160.2.1 57 = .ok (.aload_n 0, 1) := by decide +kernel
theorem zd160_58 : decode zxm160.2.1 58 = .ok (.getfield 39, 3) := by decide +kernel
theorem zd160_61 : decode zxm160.2.1 61 = .ok (.iload_n 2, 1) := by decide +kernel
theorem zd160_62 : decode zxm160.2.1 62 = .ok (.invokevirtual 303, 3) := by decide +kernel
theorem zd160_65 : decode zxm160.2.1 65 = .ok (.aload_n 0, 1) := by decide +kernel
theorem zd160_66 : decode zxm160.2.1 66 = .ok (.getfield 10, 3) := by decide +kernel
theorem zd160_69 : decode zxm160.2.1 69 = .ok (.iload_n 3, 1) := by decide +kernel
theorem zd160_70 : decode zxm160.2.1 70 = .ok (.invokevirtual 340, 3) := by decide +kernel
theorem zd160_73 : decode zxm160.2.1 73 = .ok (.if_icmp .ne 28, 3) := by decide +kernel
theorem zd160_76 : decode zxm160.2.1 76 = .ok (.aload_n 0, 1) := by decide +kernel
theorem zd160_77 : decode zxm160.2.1 77 = .ok (.getfield 39, 3) := by decide +kernel
theorem zd160_80 : decode zxm160.2.1 80 = .ok (.iload_n 2, 1) := by decide +kernel
theorem zd160_81 : decode zxm160.2.1 81 = .ok (.iconst 1, 1) := by decide +kernel
theorem zd160_82 : decode zxm160.2.1 82 = .ok (.iadd, 1) := by decide +kernel
theorem zd160_83 : decode zxm160.2.1 83 = .ok (.invokevirtual 303, 3) := by decide +kernel
theorem zd160_86 : decode zxm160.2.1 86 = .ok (.aload_n 0, 1) := by decide +kernel
theorem zd160_87 : decode zxm160.2.1 87 = .ok (.getfield 10, 3) := by decide +kernel
theorem zd160_90 : decode zxm160.2.1 90 = .ok (.iload_n 3, 1) := by decide +kernel
theorem zd160_91 : decode zxm160.2.1 91 = .ok (.invokevirtual 343, 3) := by decide +kernel
theorem zd160_94 : decode zxm160.2.1 94 = .ok (.if_icmp .ne 7, 3) := by decide +kernel
theorem zd160_97 : decode zxm160.2.1 97 = .ok (.iconst 1, 1) := by decide +kernel
theorem zd160_98 : decode zxm160.2.1 98 = .ok (.goto 4, 3) := by decide +kernel
theorem zd160_101 : decode zxm160.2.1 101 = .ok (.iconst 0, 1) := by decide +kernel
theorem zd160_102 : decode zxm160.2.1 102 = .ok (.istore 4, 2) := by decide +kernel
theorem zd160_104 : decode zxm160.2.1 104 = .ok (.iload 4, 2) := by decide +kernel
theorem zd160_106 : decode zxm160.2.1 106 = .ok (.ifCond .ne 9, 3) := by decide +kernel
theorem zd160_109 : decode zxm160.2.1 109 = .ok (.iload_n 1, 1) := by decide +kernel
theorem zd160_110 : decode zxm160.2.1 110 = .ok (.iconst 1, 1) := by decide +kernel
theorem zd160_111 : decode zxm160.2.1 111 = .ok (.iload_n 3, 1) := by decide +kernel
theorem zd160_112 : decode zxm160.2.1 112 = .ok (.ishl, 1) := by decide +kernel
theorem zd160_113 : decode zxm160.2.1 113 = .ok (.ior, 1) := by decide +kernel
theorem zd160_114 : decode zxm160.2.1 114 = .ok (.istore_n 1, 1) := by decide +kernel
theorem zd160_115 : decode zxm160.2.1 115 = .ok (.iinc 2 2, 3) := by decide +kernel
theorem zd160_118 : decode zxm160.2.1 118 = .ok (.iinc 3 1, 3) := by decide +kernel
theorem zd160_121 : decode zxm160.2.1 121 = .ok (.goto (-81), 3) := by decide +kernel
theorem zd160_124 : decode zxm160.2.1 124 = .ok (.iload_n 1, 1) := by decide +kernel
theorem zd160_125 : decode zxm160.2.1 125 = .ok (.ireturn, 1) := by decide +kernel
theorem zt_X_found {f0 : Int} {f1 : Int} {g0 : (Int → Int)} {g1 : (Int → Int)} {g2 : (Int → Int)} {g3 : (Int → Int)} {g4 : (Int → Int)} {o : Int × Int} (h : zf_X_found f0 f1 g0 g1 g2 g3 g4 = some o) : zv_Fn z_TB z_cl z_KX zy_X_found zxm160 (2, 120) [.inr 0] [.inl f0, .inl f1] [g0, g1, g2, g3, g4] (some o.1) [.inl f0, .inl o.2] [g0, g1, g2, g3, g4] := zv_meth (K := (z_KF0, z_KC0, z_KL0, z_KT0, [], [], [], none)) (FT := z_FT) (MT := z_MT) (n := 1) zxp160 (z_ks0 _ (fun _ h => List.mem_cons_of_mem _ h) _ _ _ _ (fun j r h _ => by cases h)) (fun _ _ => zs_KX_p) zyw_X_found (fun va F G h => by obtain ⟨rfl, _⟩ := h; rfl) (fun va F G h => by obtain ⟨rfl, _⟩ := h; rfl) rfl fun good va F G hB hret hvret hP => by
  obtain ⟨rfl, rfl, rfl⟩ := hP
  have l0 : ∀ (n : Nat) (x1 : Int) (x2 : Int) (x3 : Int) (f1 : Int) (q : Int), zf_X_found_l0 f0 g0 g1 g2 g3 g4 n x1 x2 x3 = some q → (good 124 [.inr 1000, .inl q, .inr 1000, .inr 1000, .inr 1000] [] [.inl f0, .inl f1] [g0, g1, g2, g3, g4]) → good 40 [.inr 0, .inl x1, .inl x2, .inl x3, .inr 1000] [] [.inl f0, .inl f1] [g0, g1, g2, g3, g4] := by
    intro n
    induction n with
    | zero => intro x1 x2 x3 f1 q h; exact absurd (show none = some q from h) (fun h => by cases h)
    | succ n ih =>
      intro x1 x2 x3 f1 q h hK
      replace h : zf_X_found_l0_b f0 g0 g1 g2 g3 g4 (zf_X_found_l0 f0 g0 g1 g2 g3 g4 n) x1 x2 x3 = some q := h
      unfold zf_X_found_l0_b at h
      refine zv_ild hB zd160_40 rfl rfl ?_
      refine zv_con hB zd160_41 rfl ?_
      refine zv_cge hB zd160_43 rfl (fun hc5 => ?_) (fun hc5 => ?_)
      · rw [if_neg (Int.not_lt.mpr hc5)] at h
        have hq := Option.some.inj h
        subst hq
        refine zv_wk hB (L' := [.inr 1000, .inl x1, .inr 1000, .inr 1000, .inr 1000]) (F' := [.inl f0, .inl f1]) ⟨fun (h : zv_is (.inr 1000)) => (Nat.lt_irrefl 1000 h).elim, fun _ => rfl, fun (h : zv_is (.inr 1000)) => (Nat.lt_irrefl 1000 h).elim, fun (h : zv_is (.inr 1000)) => (Nat.lt_irrefl 1000 h).elim, fun (h : zv_is (.inr 1000)) => (Nat.lt_irrefl 1000 h).elim, trivial⟩ ⟨fun _ => rfl, fun _ => rfl, trivial⟩ ?_
        exact hK
      · rw [if_pos hc5] at h
        refine zv_ald hB zd160_46 rfl rfl rfl ?_
        refine zv_getr hB zd160_47 rfl ?_
        refine zv_ild hB zd160_50 rfl rfl ?_
        obtain ⟨r6, hr6, h⟩ := zi_bind h
        refine zv_cv hB (zv_emq (va2 := [.inr 1, .inl x3]) (F := [.inl f0, .inl f1]) (F' := [.inl f0, .inl f1]) (G := [g0, g1, g2, g3, g4]) (G' := [g0, g1, g2, g3, g4]) (ρ := [1]) (φ := [0]) (ψ := []) [some 0, none] [none, none, none, none, none] zyw_Sky_hasStar zyw_X_found zye_X_found (by decide +kernel) (zt_Sky_hasStar hr6) ⟨⟨_, rfl, fun _ => rfl⟩, trivial⟩ trivial rfl rfl rfl rfl rfl rfl rfl) zd160_51 zxt18 rfl (by decide) (by decide) rfl ?_
        refine zv_zeq hB zd160_54 rfl (fun hc7 => ?_) (fun hc7 => ?_)
        · rw [if_pos hc7] at h
          refine zv_iincw hB zd160_118 rfl rfl ?_
          refine zv_goto hB zd160_121 rfl ?_
          exact ih _ _ _ _ q h hK
        · rw [if_neg hc7] at h
          refine zv_ald hB zd160_57 rfl rfl rfl ?_
          refine zv_getr hB zd160_58 rfl ?_
          refine zv_ild hB zd160_61 rfl rfl ?_
          obtain ⟨r8, hr8, h⟩ := zi_bind h
          refine zv_cv hB (zv_emq (va2 := [.inr 2, .inl x2]) (F := [.inl f0, .inl f1]) (F' := [.inl f0, .inl f1]) (G := [g0, g1, g2, g3, g4]) (G' := [g0, g1, g2, g3, g4]) (ρ := [2, 3]) (φ := []) (ψ := [0]) [none, none] [some 0, none, none, none, none] zyw_Tape_byteAt zyw_X_found zye_X_found (by decide +kernel) (zt_Tape_byteAt hr8) trivial ⟨rfl, trivial⟩ rfl rfl rfl rfl rfl rfl rfl) zd160_62 zxt138 rfl (by decide) (by decide) rfl ?_
          refine zv_ald hB zd160_65 rfl rfl rfl ?_
          refine zv_getr hB zd160_66 rfl ?_
          refine zv_ild hB zd160_69 rfl rfl ?_
          obtain ⟨r9, hr9, h⟩ := zi_bind h
          refine zv_cv hB (zv_emq (va2 := [.inr 1, .inl x3]) (F := [.inl f0, .inl f1]) (F' := [.inl f0, .inl f1]) (G := [g0, g1, g2, g3, g4]) (G' := [g0, g1, g2, g3, g4]) (ρ := [1, 4, 5]) (φ := []) (ψ := [1, 2]) [none, none] [none, some 0, some 1, none, none] zyw_Sky_columnNextNight zyw_X_found zye_X_found (by decide +kernel) (zt_Sky_columnNextNight hr9) trivial ⟨rfl, rfl, trivial⟩ rfl rfl rfl rfl rfl rfl rfl) zd160_70 zxt157 rfl (by decide) (by decide) rfl ?_
          refine zv_cne hB zd160_73 rfl (fun hc10 => ?_) (fun hc10 => ?_)
          · rw [if_neg hc10] at h
            refine zv_con hB zd160_101 rfl ?_
            refine zv_ist hB zd160_102 rfl rfl rfl ?_
            refine zv_ild hB zd160_104 rfl rfl ?_
            refine zv_zne hB zd160_106 rfl (fun hc => absurd hc (by decide)) (fun _ => ?_)
            refine zv_ild hB zd160_109 rfl rfl ?_
            refine zv_con hB zd160_110 rfl ?_
            refine zv_ild hB zd160_111 rfl rfl ?_
            refine zv_shlw hB zd160_112 ?_
            refine zv_orw hB zd160_113 ?_
            refine zv_ist hB zd160_114 rfl rfl rfl ?_
            refine zv_iincw hB zd160_115 rfl rfl ?_
            refine zv_iincw hB zd160_118 rfl rfl ?_
            refine zv_goto hB zd160_121 rfl ?_
            refine zv_wk hB (L' := [.inr 0, .inl (zi_or x1 (zi_shl 1 x3)), .inl (zi_w (x2 + 2)), .inl (zi_w (x3 + 1)), .inr 1000]) (F' := [.inl f0, .inl f1]) ⟨fun _ => rfl, fun _ => rfl, fun _ => rfl, fun _ => rfl, fun (h : zv_is (.inr 1000)) => (Nat.lt_irrefl 1000 h).elim, trivial⟩ ⟨fun _ => rfl, fun _ => rfl, trivial⟩ ?_
            exact ih _ _ _ _ q h hK
          · rw [if_pos hc10] at h
            refine zv_ald hB zd160_76 rfl rfl rfl ?_
            refine zv_getr hB zd160_77 rfl ?_
            refine zv_ild hB zd160_80 rfl rfl ?_
            refine zv_con hB zd160_81 rfl ?_
            refine zv_addw hB zd160_82 ?_
            obtain ⟨r12, hr12, h⟩ := zi_bind h
            refine zv_cv hB (zv_emq (va2 := [.inr 2, .inl (zi_w (x2 + 1))]) (F := [.inl f0, .inl f1]) (F' := [.inl f0, .inl f1]) (G := [g0, g1, g2, g3, g4]) (G' := [g0, g1, g2, g3, g4]) (ρ := [2, 3]) (φ := []) (ψ := [0]) [none, none] [some 0, none, none, none, none] zyw_Tape_byteAt zyw_X_found zye_X_found (by decide +kernel) (zt_Tape_byteAt hr12) trivial ⟨rfl, trivial⟩ rfl rfl rfl rfl rfl rfl rfl) zd160_83 zxt138 rfl (by decide) (by decide) rfl ?_
            refine zv_ald hB zd160_86 rfl rfl rfl ?_
            refine zv_getr hB zd160_87 rfl ?_
            refine zv_ild hB zd160_90 rfl rfl ?_
            obtain ⟨r13, hr13, h⟩ := zi_bind h
            refine zv_cv hB (zv_emq (va2 := [.inr 1, .inl x3]) (F := [.inl f0, .inl f1]) (F' := [.inl f0, .inl f1]) (G := [g0, g1, g2, g3, g4]) (G' := [g0, g1, g2, g3, g4]) (ρ := [1, 6, 7]) (φ := []) (ψ := [3, 4]) [none, none] [none, none, none, some 0, some 1] zyw_Sky_rowNextNight zyw_X_found zye_X_found (by decide +kernel) (zt_Sky_rowNextNight hr13) trivial ⟨rfl, rfl, trivial⟩ rfl rfl rfl rfl rfl rfl rfl) zd160_91 zxt158 rfl (by decide) (by decide) rfl ?_
            refine zv_cne hB zd160_94 rfl (fun hc14 => ?_) (fun hc14 => ?_)
            · rw [if_neg hc14] at h
              refine zv_con hB zd160_101 rfl ?_
              refine zv_ist hB zd160_102 rfl rfl rfl ?_
              refine zv_ild hB zd160_104 rfl rfl ?_
              refine zv_zne hB zd160_106 rfl (fun hc => absurd hc (by decide)) (fun _ => ?_)
              refine zv_ild hB zd160_109 rfl rfl ?_
              refine zv_con hB zd160_110 rfl ?_
              refine zv_ild hB zd160_111 rfl rfl ?_
              refine zv_shlw hB zd160_112 ?_
              refine zv_orw hB zd160_113 ?_
              refine zv_ist hB zd160_114 rfl rfl rfl ?_
              refine zv_iincw hB zd160_115 rfl rfl ?_
              refine zv_iincw hB zd160_118 rfl rfl ?_
              refine zv_goto hB zd160_121 rfl ?_
              refine zv_wk hB (L' := [.inr 0, .inl (zi_or x1 (zi_shl 1 x3)), .inl (zi_w (x2 + 2)), .inl (zi_w (x3 + 1)), .inr 1000]) (F' := [.inl f0, .inl f1]) ⟨fun _ => rfl, fun _ => rfl, fun _ => rfl, fun _ => rfl, fun (h : zv_is (.inr 1000)) => (Nat.lt_irrefl 1000 h).elim, trivial⟩ ⟨fun _ => rfl, fun _ => rfl, trivial⟩ ?_
              exact ih _ _ _ _ q h hK
            · rw [if_pos hc14] at h
              refine zv_con hB zd160_97 rfl ?_
              refine zv_goto hB zd160_98 rfl ?_
              refine zv_ist hB zd160_102 rfl rfl rfl ?_
              refine zv_ild hB zd160_104 rfl rfl ?_
              refine zv_zne hB zd160_106 rfl (fun _ => ?_) (fun hc => absurd hc (by decide))
              refine zv_iincw hB zd160_115 rfl rfl ?_
              refine zv_iincw hB zd160_118 rfl rfl ?_
              refine zv_goto hB zd160_121 rfl ?_
              refine zv_wk hB (L' := [.inr 0, .inl x1, .inl (zi_w (x2 + 2)), .inl (zi_w (x3 + 1)), .inr 1000]) (F' := [.inl f0, .inl f1]) ⟨fun _ => rfl, fun _ => rfl, fun _ => rfl, fun _ => rfl, fun (h : zv_is (.inr 1000)) => (Nat.lt_irrefl 1000 h).elim, trivial⟩ ⟨fun _ => rfl, fun _ => rfl, trivial⟩ ?_
              exact ih _ _ _ _ q h hK
  unfold zf_X_found at h
  refine zv_ald hB zd160_0 rfl rfl rfl ?_
  refine zv_getr hB zd160_1 rfl ?_
  refine zv_getf hB zd160_4 rfl rfl (fun _ _ => ?_)
  refine zv_zeq hB zd160_7 rfl (fun hc1 => ?_) (fun hc1 => ?_)
  · rw [if_pos hc1] at h
    refine zv_con hB zd160_32 rfl ?_
    have hw := Option.some.inj h
    subst hw
    exact hret _ _ _ _ _ zd160_33 (by trivial) ⟨rfl, rfl, rfl⟩
  · rw [if_neg hc1] at h
    refine zv_ald hB zd160_10 rfl rfl rfl ?_
    refine zv_getr hB zd160_11 rfl ?_
    refine zv_con hB zd160_14 rfl ?_
    refine zv_ald hB zd160_15 rfl rfl rfl ?_
    refine zv_getr hB zd160_16 rfl ?_
    refine zv_getf hB zd160_19 rfl rfl (fun _ _ => ?_)
    obtain ⟨r2, hr2, h⟩ := zi_bind h
    refine zv_cs hB (zv_emq (va2 := [.inl f0]) (F := [.inl f0, .inl f1]) (F' := [.inl f0, .inl f1]) (G := [g0, g1, g2, g3, g4]) (G' := [g0, g1, g2, g3, g4]) (ρ := []) (φ := []) (ψ := []) [none, none] [none, none, none, none, none] zyw_Integer_bitCount zyw_X_found zye_X_found (by decide +kernel) (zt_Integer_bitCount hr2) trivial trivial rfl rfl rfl rfl rfl rfl rfl) zd160_22 zxt102 rfl (by decide) (by decide) rfl ?_
    refine zv_mulw hB zd160_25 ?_
    obtain ⟨r3, hr3, h⟩ := zi_bind h
    refine zv_cv hB (zv_emq (va2 := [.inr 2, .inl (zi_w (2 * r2))]) (F := [.inl f0, .inl f1]) (F' := [.inl f0, .inl r3.2]) (G := [g0, g1, g2, g3, g4]) (G' := [g0, g1, g2, g3, g4]) (ρ := [2]) (φ := [1]) (ψ := []) [none, some 0] [none, none, none, none, none] zyw_Tape_take zyw_X_found zye_X_found (by decide +kernel) (zt_Tape_take hr3) ⟨⟨_, rfl, fun _ => rfl⟩, trivial⟩ trivial rfl rfl rfl rfl rfl rfl rfl) zd160_26 zxt35 rfl (by decide) (by decide) rfl ?_
    refine zv_zne hB zd160_29 rfl (fun hc4 => ?_) (fun hc4 => ?_)
    · rw [if_neg hc4] at h
      refine zv_con hB zd160_34 rfl ?_
      refine zv_ist hB zd160_35 rfl rfl rfl ?_
      refine zv_con hB zd160_36 rfl ?_
      refine zv_ist hB zd160_37 rfl rfl rfl ?_
      refine zv_con hB zd160_38 rfl ?_
      refine zv_ist hB zd160_39 rfl rfl rfl ?_
      obtain ⟨q17, hq17, h⟩ := zi_bind h
      refine l0 _ _ _ _ _ q17 hq17 ?_
      show good 124 [.inr 1000, .inl q17, .inr 1000, .inr 1000, .inr 1000] [] [.inl f0, .inl r3.2] [g0, g1, g2, g3, g4]
      refine zv_ild hB zd160_124 rfl rfl ?_
      have hw := Option.some.inj h
      subst hw
      exact hret _ _ _ _ _ zd160_125 (by trivial) ⟨rfl, rfl, rfl⟩
    · rw [if_pos hc4] at h
      refine zv_con hB zd160_32 rfl ?_
      have hw := Option.some.inj h
      subst hw
      exact hret _ _ _ _ _ zd160_33 (by trivial) ⟨rfl, rfl, rfl⟩
/-! Arrays_fill_288 ([II)V -/
-- names: 0 (0, 288)('arg', 0)
-- fields: ; arrays: g0 = 0; out: [('g', 0)]
abbrev zy_Arrays_fill_288 : zNL := (1, [], [], [], [(0, 0, 288, 0)])
theorem zyw_Arrays_fill_288 : zv_wf zy_Arrays_fill_288 = true := by decide +kernel
theorem zye_Arrays_fill_288 : zv_ek2 zy_Arrays_fill_288 = true := by decide +kernel
def zf_Arrays_fill_288_l0_b (x1 : Int) (x3 : Int) (rec : Int → (Int → Int) → Option ((Int → Int))) (x2 : Int) (g0 : (Int → Int)) : Option ((Int → Int)) := if x2 < x3 then (cond (zi_ix x2 288) (rec (zi_w (x2 + 1)) (zv_up g0 x2 x1)) none) else (some g0)
def zf_Arrays_fill_288_l0 (x1 : Int) (x3 : Int) : Nat → Int → (Int → Int) → Option ((Int → Int))
  | 0, _, _ => none
  | n + 1, x2, g0 => zf_Arrays_fill_288_l0_b x1 x3 (zf_Arrays_fill_288_l0 x1 x3 n) x2 g0
def zf_Arrays_fill_288 (x1 : Int) (g0 : (Int → Int)) : Option ((Int → Int)) := (zf_Arrays_fill_288_l0 x1 288 zi_fu 0 g0).bind fun q3 => (some q3)
theorem zt_Arrays_fill_288 {x1 : Int} {g0 : (Int → Int)} {o : (Int → Int)} (h : zf_Arrays_fill_288 x1 g0 = some o) : zv_Fn z_TB z_cl z_KX zy_Arrays_fill_288 zxm78 (0, 0) [.inr 0, .inl x1] [] [g0] none [] [o] := zv_meth (K := (z_KF20, z_KC20, z_KL20, z_KT20, [], [], [], none)) (FT := z_FT) (MT := z_MT) (n := 2) zxp78 (z_ks20 _ (fun _ h => List.mem_cons_of_mem _ h) _ _ _ _ (fun j r h _ => by cases h)) (fun _ _ => zs_KX_p) zyw_Arrays_fill_288 (fun va F G h => by obtain ⟨rfl, _⟩ := h; rfl) (fun va F G h => by obtain ⟨rfl, _⟩ := h; rfl) rfl fun good va F G hB hret hvret hP => by
  obtain ⟨rfl, rfl, rfl⟩ := hP
  have l0 : ∀ (n : Nat) (x1 : Int) (x2 : Int) (x3 : Int) (g0 : (Int → Int)) (q : (Int → Int)), zf_Arrays_fill_288_l0 x1 x3 n x2 g0 = some q → (good 20 [.inr 1000, .inr 1000, .inr 1000, .inr 1000] [] [] [q]) → good 5 [.inr 0, .inl x1, .inl x2, .inl x3] [] [] [g0] := by
    intro n
    induction n with
    | zero => intro x1 x2 x3 g0 q h; exact absurd (show none = some q from h) (fun h => by cases h)
    | succ n ih =>
      intro x1 x2 x3 g0 q h hK
      replace h : zf_Arrays_fill_288_l0_b x1 x3 (zf_Arrays_fill_288_l0 x1 x3 n) x2 g0 = some q := h
      unfold zf_Arrays_fill_288_l0_b at h
      refine zv_ild hB zd78_5 rfl rfl ?_
      refine zv_ild hB zd78_6 rfl rfl ?_
      refine zv_cge hB zd78_7 rfl (fun hc1 => ?_) (fun hc1 => ?_)
      · rw [if_neg (Int.not_lt.mpr hc1)] at h
        have hq := Option.some.inj h
        subst hq
        refine zv_wk hB (L' := [.inr 1000, .inr 1000, .inr 1000, .inr 1000]) (F' := []) ⟨fun (h : zv_is (.inr 1000)) => (Nat.lt_irrefl 1000 h).elim, fun (h : zv_is (.inr 1000)) => (Nat.lt_irrefl 1000 h).elim, fun (h : zv_is (.inr 1000)) => (Nat.lt_irrefl 1000 h).elim, fun (h : zv_is (.inr 1000)) => (Nat.lt_irrefl 1000 h).elim, trivial⟩ trivial ?_
        exact hK
      · rw [if_pos hc1] at h
        refine zv_ald hB zd78_10 rfl rfl rfl ?_
        refine zv_ild hB zd78_11 rfl rfl ?_
        refine zv_ild hB zd78_12 rfl rfl ?_
        obtain ⟨c2, h⟩ := zi_if h
        refine zv_iast hB zd78_13 rfl rfl (zi_ix_ok c2).1 (zi_ix_ok c2).2 ?_
        refine zv_iincw hB zd78_14 rfl rfl ?_
        refine zv_goto hB zd78_17 rfl ?_
        exact ih _ _ _ _ q h hK
  unfold zf_Arrays_fill_288 at h
  refine zv_con hB zd78_0 rfl ?_
  refine zv_ist hB zd78_1 rfl rfl rfl ?_
  refine zv_ald hB zd78_2 rfl rfl rfl ?_
  refine zv_alen (v := 288) hB zd78_3 rfl rfl rfl rfl ?_
  refine zv_ist hB zd78_4 rfl rfl rfl ?_
  obtain ⟨q3, hq3, h⟩ := zi_bind h
  refine l0 _ _ _ _ _ q3 hq3 ?_
  show good 20 [.inr 1000, .inr 1000, .inr 1000, .inr 1000] [] [] [q3]
  have hw := Option.some.inj h
  subst hw
  exact hvret _ _ _ _ zd78_20 trivial ⟨rfl, rfl, rfl⟩
/-! Pilot_spread_288 (LStarTales$Sea;I[I)V -/
-- names: 0 Pilot('arg', 0), 1 Sea('arg', 1), 2 (0, 288)('arg', 3), 3 (0, 288)(0, 9, 14), 4 (0, 12)(1, 2, 0)
-- fields: ; arrays: g0 = 2, g1 = 3, g2 = 4; out: [('g', 0), ('g', 1)]
abbrev zy_Pilot_spread_288 : zNL := (5, [(0, 9), (1, 2)], [], [(0, 9, 14, 3), (1, 2, 0, 4)], [(2, 0, 288, 0), (3, 0, 288, 1), (4, 0, 12, 2)])
theorem zyw_Pilot_spread_288 : zv_wf zy_Pilot_spread_288 = true := by decide +kernel
theorem zye_Pilot_spread_288 : zv_ek2 zy_Pilot_spread_288 = true := by decide +kernel
def zf_Pilot_spread_288_l1_b (x6 : Int) (g2 : (Int → Int)) (rec : Int → Int → (Int → Int) → (Int → Int) → Option (Int × (Int → Int) × (Int → Int))) (x4 : Int) (x7 : Int) (g0 : (Int → Int)) (g1 : (Int → Int)) : Option (Int × (Int → Int) × (Int → Int)) := if x7 < 5 then ((zf_Sea_goFrom x6 x7 g2).bind fun r7 => (if r7 = (-1) then (rec x4 (zi_w (x7 + 1)) g0 g1) else (cond (zi_ix r7 288) (if (g0 r7) = (-1) then (if x4 < 288 then (cond (zi_ix x6 288) (cond (zi_ix x4 288) (rec (zi_w (x4 + 1)) (zi_w (x7 + 1)) (zv_up g0 r7 (zi_w ((g0 x6) + 1))) (zv_up g1 x4 r7)) none) none) else (rec x4 (zi_w (x7 + 1)) g0 g1)) else (rec x4 (zi_w (x7 + 1)) g0 g1)) none))) else (some (x4, g0, g1))
def zf_Pilot_spread_288_l1 (x6 : Int) (g2 : (Int → Int)) : Nat → Int → Int → (Int → Int) → (Int → Int) → Option (Int × (Int → Int) × (Int → Int))
  | 0, _, _, _, _ => none
  | n + 1, x4, x7, g0, g1 => zf_Pilot_spread_288_l1_b x6 g2 (zf_Pilot_spread_288_l1 x6 g2 n) x4 x7 g0 g1
def zf_Pilot_spread_288_l0_b (g2 : (Int → Int)) (rec : Int → Int → (Int → Int) → (Int → Int) → Option ((Int → Int) × (Int → Int))) (x4 : Int) (x5 : Int) (g0 : (Int → Int)) (g1 : (Int → Int)) : Option ((Int → Int) × (Int → Int)) := if x5 < x4 then (if x5 < 288 then (cond (zi_ix x5 288) ((zf_Pilot_spread_288_l1 (g1 x5) g2 zi_fu x4 1 g0 g1).bind fun q14 => (rec q14.1 (zi_w (x5 + 1)) q14.2.1 q14.2.2)) none) else (some (g0, g1))) else (some (g0, g1))
def zf_Pilot_spread_288_l0 (g2 : (Int → Int)) : Nat → Int → Int → (Int → Int) → (Int → Int) → Option ((Int → Int) × (Int → Int))
  | 0, _, _, _, _ => none
  | n + 1, x4, x5, g0, g1 => zf_Pilot_spread_288_l0_b g2 (zf_Pilot_spread_288_l0 g2 n) x4 x5 g0 g1
def zf_Pilot_spread_288 (x2 : Int) (g0 : (Int → Int)) (g1 : (Int → Int)) (g2 : (Int → Int)) : Option ((Int → Int) × (Int → Int)) := (zf_Arrays_fill_288 (-1) g0).bind fun r1 => (cond (zi_ix x2 288) ((zf_Pilot_spread_288_l0 g2 zi_fu 1 0 (zv_up r1 x2 0) (zv_up g1 0 x2)).bind fun q15 => (some (q15.1, q15.2))) none)
theorem zd163_0 : decode zxm163.2.1 0 = .ok (.aload_n 3, 1) := by decide +kernel
theorem zd163_1 : decode zxm163.2.1 1 = .ok (.iconst (-1), 1) := by decide +kernel
theorem zd163_2 : decode zxm163.2.1 2 = .ok (.invokestatic 110, 3) := by decide +kernel
theorem zd163_5 : decode zxm163.2.1 5 = .ok (.aload_n 3, 1) := by decide +kernel
theorem zd163_6 : decode zxm163.2.1 6 = .ok (.iload_n 2, 1) := by decide +kernel
theorem zd163_7 : decode zxm163.2.1 7 = .ok (.iconst 0, 1) := by decide +kernel
theorem zd163_8 : decode zxm163.2.1 8 = .ok (.iastore, 1) := by decide +kernel
theorem zd163_9 : decode zxm163.2.1 9 = .ok (.aload_n 0, 1) := by decide +kernel
theorem zd163_10 : decode zxm163.2.1 10 = .ok (.getfield 55, 3) := by decide +kernel
theorem zd163_13 : decode zxm163.2.1 13 = .ok (.iconst 0, 1) := by decide +kernel
theorem zd163_14 : decode zxm163.2.1 14 = .ok (.iload_n 2, 1) := by decide +kernel
theorem zd163_15 : decode zxm163.2.1 15 = .ok (.iastore, 1) := by decide +kernel
theorem zd163_16 : decode zxm163.2.1 16 = .ok (.iconst 1, 1) := by decide +kernel
theorem zd163_17 : decode zxm163.2.1 17 = .ok (.istore 4, 2) := by decide +kernel
theorem zd163_19 : decode zxm163.2.1 19 = .ok (.iconst 0, 1) := by decide +kernel
theorem zd163_20 : decode zxm163.2.1 20 = .ok (.istore 5, 2) := by decide +kernel
theorem zd163_22 : decode zxm163.2.1 22 = .ok (.iload 5, 2) := by decide +kernel
theorem zd163_24 : decode zxm163.2.1 24 = .ok (.iload 4, 2) := by decide +kernel
theorem zd163_26 : decode zxm163.2.1 26 = .ok (.if_icmp .ge 95, 3) := by decide +kernel
theorem zd163_29 : decode zxm163.2.1 29 = .ok (.iload 5, 2) := by decide +kernel
theorem zd163_31 : decode zxm163.2.1 31 = .ok (.sipush 288, 3) := by decide +kernel
theorem zd163_34 : decode zxm163.2.1 34 = .ok (.if_icmp .ge 87, 3) := by decide +kernel
theorem zd163_37 : decode zxm163.2.1 37 = .ok (.aload_n 0, 1) := by decide +kernel
theorem zd163_38 : decode zxm163.2.1 38 = .ok (.getfield 55, 3) := by decide +kernel
theorem zd163_41 : decode zxm163.2.1 41 = .ok (.iload 5, 2) := by decide +kernel
theorem zd163_43 : decode zxm163.2.1 43 = .ok (.iaload, 1) := by decide +kernel
theorem zd163_44 : decode zxm163.2.1 44 = .ok (.istore 6, 2) := by decide +kernel
theorem zd163_46 : decode zxm163.2.1 46 = .ok (.iconst 1, 1) := by decide +kernel
theorem zd163_47 : decode zxm163.2.1 47 = .ok (.istore 7, 2) := by decide +kernel
theorem zd163_49 : decode zxm163.2.1 49 = .ok (.iload 7, 2) := by decide +kernel
theorem zd163_51 : decode zxm163.2.1 51 = .ok (.iconst 5, 1) := by decide +kernel
theorem zd163_52 : decode zxm163.2.1 52 = .ok (.if_icmp .ge 63, 3) := by decide +kernel
theorem zd163_55 : decode zxm163.2.1 55 = .ok (.aload_n 1, 1) := by decide +kernel
theorem zd163_56 : decode zxm163.2.1 56 = .ok (.iload 6, 2) := by decide +kernel
theorem zd163_58 : decode zxm163.2.1 58 = .ok (.iload 7, 2) := by decide +kernel
theorem zd163_60 : decode zxm163.2.1 60 = .ok (.invokevirtual 99, 3) := by decide +kernel
theorem zd163_63 : decode zxm163.2.1 63 = .ok (.istore 8, 2) := by decide +kernel
theorem zd163_65 : decode zxm163.2.1 65 = .ok (.iload 8, 2) := by decide +kernel
theorem zd163_67 : decode zxm163.2.1 67 = .ok (.iconst (-1), 1) := by decide +kernel
theorem zd163_68 : decode zxm163.2.1 68 = .ok (.if_icmp .eq 41, 3) := by decide +kernel
theorem zd163_71 : decode zxm163.2.1 71 = .ok (.aload_n 3, 1) := by decide +kernel
theorem zd163_72 : decode zxm163.2.1 72 = .ok (.iload 8, 2) := by decide +kernel
theorem zd163_74 : decode zxm163.2.1 74 = .ok (.iaload, 1) := by decide +kernel
theorem zd163_75 : decode zxm163.2.1 75 = .ok (.iconst (-1), 1) := by decide +kernel
theorem zd163_76 : decode zxm163.2.1 76 = .ok (.if_icmp .ne 33, 3) := by decide +kernel
theorem zd163_79 : decode zxm163.2.1 79 = .ok (.iload 4, 2) := by decide +kernel
theorem zd163_81 : decode zxm163.2.1 81 = .ok (.sipush 288, 3) := by decide +kernel
theorem zd163_84 : decode zxm163.2.1 84 = .ok (.if_icmp .ge 25, 3) := by decide +kernel
theorem zd163_87 : decode zxm163.2.1 87 = .ok (.aload_n 3, 1) := by decide +kernel
theorem zd163_88 : decode zxm163.2.1 88 = .ok (.iload 8, 2) := by decide +kernel
theorem zd163_90 : decode zxm163.2.1 90 = .ok (.aload_n 3, 1) := by decide +kernel
theorem zd163_91 : decode zxm163.2.1 91 = .ok (.iload 6, 2) := by decide +kernel
theorem zd163_93 : decode zxm163.2.1 93 = .ok (.iaload, 1) := by decide +kernel
theorem zd163_94 : decode zxm163.2.1 94 = .ok (.iconst 1, 1) := by decide +kernel
theorem zd163_95 : decode zxm163.2.1 95 = .ok (.iadd, 1) := by decide +kernel
theorem zd163_96 : decode zxm163.2.1 96 = .ok (.iastore, 1) := by decide +kernel
theorem zd163_97 : decode zxm163.2.1 97 = .ok (.aload_n 0, 1) := by decide +kernel
theorem zd163_98 : decode zxm163.2.1 98 = .ok (.getfield 55, 3) := by decide +kernel
theorem zd163_101 : decode zxm163.2.1 101 = .ok (.iload 4, 2) := by decide +kernel
theorem zd163_103 : decode zxm163.2.1 103 = .ok (.iload 8, 2) := by decide +kernel
theorem zd163_105 : decode zxm163.2.1 105 = .ok (.iastore, 1) := by decide +kernel
theorem zd163_106 : decode zxm163.2.1 106 = .ok (.iinc 4 1, 3) := by decide +kernel
theorem zd163_109 : decode zxm163.2.1 109 = .ok (.iinc 7 1, 3) := by decide +kernel
theorem zd163_112 : decode zxm163.2.1 112 = .ok (.goto (-63), 3) := by decide +kernel
theorem zd163_115 : decode zxm163.2.1 115 = .ok (.iinc 5 1, 3) := by decide +kernel
theorem zd163_118 : decode zxm163.2.1 118 = .ok (.goto (-96), 3) := by decide +kernel
theorem zd163_121 : decode zxm163.2.1 121 = .ok (.return_, 1) := by decide +kernel
theorem zt_Pilot_spread_288 {x2 : Int} {g0 : (Int → Int)} {g1 : (Int → Int)} {g2 : (Int → Int)} {o : (Int → Int) × (Int → Int)} (h : zf_Pilot_spread_288 x2 g0 g1 g2 = some o) : zv_Fn z_TB z_cl z_KX zy_Pilot_spread_288 zxm163 (3, 180) [.inr 0, .inr 1, .inl x2, .inr 2] [] [g0, g1, g2] none [] [o.1, o.2, g2] := zv_meth (K := (z_KF6, z_KC6, z_KL6, z_KT6, [], [], [], none)) (FT := z_FT) (MT := z_MT) (n := 4) zxp163 (z_ks6 _ (fun _ h => List.mem_cons_of_mem _ h) _ _ _ _ (fun j r h _ => by cases h)) (fun _ _ => zs_KX_p) zyw_Pilot_spread_288 (fun va F G h => by obtain ⟨rfl, _⟩ := h; rfl) (fun va F G h => by obtain ⟨rfl, _⟩ := h; rfl) rfl fun good va F G hB hret hvret hP => by
  obtain ⟨rfl, rfl, rfl⟩ := hP
  have l1 : ∀ (n : Nat) (x4 : Int) (x5 : Int) (x6 : Int) (x7 : Int) (g0 : (Int → Int)) (g1 : (Int → Int)) (q : Int × (Int → Int) × (Int → Int)), zf_Pilot_spread_288_l1 x6 g2 n x4 x7 g0 g1 = some q → (good 115 [.inr 0, .inr 1, .inr 1000, .inr 2, .inl q.1, .inl x5, .inr 1000, .inr 1000, .inr 1000] [] [] [q.2.1, q.2.2, g2]) → good 49 [.inr 0, .inr 1, .inr 1000, .inr 2, .inl x4, .inl x5, .inl x6, .inl x7, .inr 1000] [] [] [g0, g1, g2] := by
    intro n
    induction n with
    | zero => intro x4 x5 x6 x7 g0 g1 q h; exact absurd (show none = some q from h) (fun h => by cases h)
    | succ n ih =>
      intro x4 x5 x6 x7 g0 g1 q h hK
      replace h : zf_Pilot_spread_288_l1_b x6 g2 (zf_Pilot_spread_288_l1 x6 g2 n) x4 x7 g0 g1 = some q := h
      unfold zf_Pilot_spread_288_l1_b at h
      refine zv_ild hB zd163_49 rfl rfl ?_
      refine zv_con hB zd163_51 rfl ?_
      refine zv_cge hB zd163_52 rfl (fun hc6 => ?_) (fun hc6 => ?_)
      · rw [if_neg (Int.not_lt.mpr hc6)] at h
        have hq := Option.some.inj h
        subst hq
        refine zv_wk hB (L' := [.inr 0, .inr 1, .inr 1000, .inr 2, .inl x4, .inl x5, .inr 1000, .inr 1000, .inr 1000]) (F' := []) ⟨fun _ => rfl, fun _ => rfl, fun (h : zv_is (.inr 1000)) => (Nat.lt_irrefl 1000 h).elim, fun _ => rfl, fun _ => rfl, fun _ => rfl, fun (h : zv_is (.inr 1000)) => (Nat.lt_irrefl 1000 h).elim, fun (h : zv_is (.inr 1000)) => (Nat.lt_irrefl 1000 h).elim, fun (h : zv_is (.inr 1000)) => (Nat.lt_irrefl 1000 h).elim, trivial⟩ trivial ?_
        exact hK
      · rw [if_pos hc6] at h
        refine zv_ald hB zd163_55 rfl rfl rfl ?_
        refine zv_ild hB zd163_56 rfl rfl ?_
        refine zv_ild hB zd163_58 rfl rfl ?_
        obtain ⟨r7, hr7, h⟩ := zi_bind h
        refine zv_cv hB (zv_emq (va2 := [.inr 1, .inl x6, .inl x7]) (F := []) (F' := []) (G := [g0, g1, g2]) (G' := [g0, g1, g2]) (ρ := [1, 4]) (φ := []) (ψ := [2]) [] [none, none, some 0] zyw_Sea_goFrom zyw_Pilot_spread_288 zye_Pilot_spread_288 (by decide +kernel) (zt_Sea_goFrom hr7) trivial ⟨rfl, trivial⟩ rfl rfl rfl rfl rfl rfl rfl) zd163_60 zxt154 rfl (by decide) (by decide) rfl ?_
        refine zv_ist hB zd163_63 rfl rfl rfl ?_
        refine zv_ild hB zd163_65 rfl rfl ?_
        refine zv_con hB zd163_67 rfl ?_
        refine zv_ceq hB zd163_68 rfl (fun hc8 => ?_) (fun hc8 => ?_)
        · rw [if_pos hc8] at h
          refine zv_iincw hB zd163_109 rfl rfl ?_
          refine zv_goto hB zd163_112 rfl ?_
          refine zv_wk hB (L' := [.inr 0, .inr 1, .inr 1000, .inr 2, .inl x4, .inl x5, .inl x6, .inl (zi_w (x7 + 1)), .inr 1000]) (F' := []) ⟨fun _ => rfl, fun _ => rfl, fun (h : zv_is (.inr 1000)) => (Nat.lt_irrefl 1000 h).elim, fun _ => rfl, fun _ => rfl, fun _ => rfl, fun _ => rfl, fun _ => rfl, fun (h : zv_is (.inr 1000)) => (Nat.lt_irrefl 1000 h).elim, trivial⟩ trivial ?_
          exact ih _ _ _ _ _ _ q h hK
        · rw [if_neg hc8] at h
          refine zv_ald hB zd163_71 rfl rfl rfl ?_
          refine zv_ild hB zd163_72 rfl rfl ?_
          obtain ⟨c9, h⟩ := zi_if h
          refine zv_iald hB zd163_74 rfl rfl (zi_ix_ok c9).1 (zi_ix_ok c9).2 (fun _ _ => ?_)
          refine zv_con hB zd163_75 rfl ?_
          refine zv_cne hB zd163_76 rfl (fun hc10 => ?_) (fun hc10 => ?_)
          · rw [if_neg hc10] at h
            refine zv_iincw hB zd163_109 rfl rfl ?_
            refine zv_goto hB zd163_112 rfl ?_
            refine zv_wk hB (L' := [.inr 0, .inr 1, .inr 1000, .inr 2, .inl x4, .inl x5, .inl x6, .inl (zi_w (x7 + 1)), .inr 1000]) (F' := []) ⟨fun _ => rfl, fun _ => rfl, fun (h : zv_is (.inr 1000)) => (Nat.lt_irrefl 1000 h).elim, fun _ => rfl, fun _ => rfl, fun _ => rfl, fun _ => rfl, fun _ => rfl, fun (h : zv_is (.inr 1000)) => (Nat.lt_irrefl 1000 h).elim, trivial⟩ trivial ?_
            exact ih _ _ _ _ _ _ q h hK
          · rw [if_pos hc10] at h
            refine zv_ild hB zd163_79 rfl rfl ?_
            refine zv_con hB zd163_81 rfl ?_
            refine zv_cge hB zd163_84 rfl (fun hc11 => ?_) (fun hc11 => ?_)
            · rw [if_neg (Int.not_lt.mpr hc11)] at h
              refine zv_iincw hB zd163_109 rfl rfl ?_
              refine zv_goto hB zd163_112 rfl ?_
              refine zv_wk hB (L' := [.inr 0, .inr 1, .inr 1000, .inr 2, .inl x4, .inl x5, .inl x6, .inl (zi_w (x7 + 1)), .inr 1000]) (F' := []) ⟨fun _ => rfl, fun _ => rfl, fun (h : zv_is (.inr 1000)) => (Nat.lt_irrefl 1000 h).elim, fun _ => rfl, fun _ => rfl, fun _ => rfl, fun _ => rfl, fun _ => rfl, fun (h : zv_is (.inr 1000)) => (Nat.lt_irrefl 1000 h).elim, trivial⟩ trivial ?_
              exact ih _ _ _ _ _ _ q h hK
            · rw [if_pos hc11] at h
              refine zv_ald hB zd163_87 rfl rfl rfl ?_
              refine zv_ild hB zd163_88 rfl rfl ?_
              refine zv_ald hB zd163_90 rfl rfl rfl ?_
              refine zv_ild hB zd163_91 rfl rfl ?_
              obtain ⟨c12, h⟩ := zi_if h
              refine zv_iald hB zd163_93 rfl rfl (zi_ix_ok c12).1 (zi_ix_ok c12).2 (fun _ _ => ?_)
              refine zv_con hB zd163_94 rfl ?_
              refine zv_addw hB zd163_95 ?_
              refine zv_iast hB zd163_96 rfl rfl (zi_ix_ok c9).1 (zi_ix_ok c9).2 ?_
              refine zv_ald hB zd163_97 rfl rfl rfl ?_
              refine zv_getr hB zd163_98 rfl ?_
              refine zv_ild hB zd163_101 rfl rfl ?_
              refine zv_ild hB zd163_103 rfl rfl ?_
              obtain ⟨c13, h⟩ := zi_if h
              refine zv_iast hB zd163_105 rfl rfl (zi_ix_ok c13).1 (zi_ix_ok c13).2 ?_
              refine zv_iincw hB zd163_106 rfl rfl ?_
              refine zv_iincw hB zd163_109 rfl rfl ?_
              refine zv_goto hB zd163_112 rfl ?_
              refine zv_wk hB (L' := [.inr 0, .inr 1, .inr 1000, .inr 2, .inl (zi_w (x4 + 1)), .inl x5, .inl x6, .inl (zi_w (x7 + 1)), .inr 1000]) (F' := []) ⟨fun _ => rfl, fun _ => rfl, fun (h : zv_is (.inr 1000)) => (Nat.lt_irrefl 1000 h).elim, fun _ => rfl, fun _ => rfl, fun _ => rfl, fun _ => rfl, fun _ => rfl, fun (h : zv_is (.inr 1000)) => (Nat.lt_irrefl 1000 h).elim, trivial⟩ trivial ?_
              exact ih _ _ _ _ _ _ q h hK
  have l0 : ∀ (n : Nat) (x4 : Int) (x5 : Int) (g0 : (Int → Int)) (g1 : (Int → Int)) (q : (Int → Int) × (Int → Int)), zf_Pilot_spread_288_l0 g2 n x4 x5 g0 g1 = some q → (good 121 [.inr 1000, .inr 1000, .inr 1000, .inr 1000, .inr 1000, .inr 1000, .inr 1000, .inr 1000, .inr 1000] [] [] [q.1, q.2, g2]) → good 22 [.inr 0, .inr 1, .inr 1000, .inr 2, .inl x4, .inl x5, .inr 1000, .inr 1000, .inr 1000] [] [] [g0, g1, g2] := by
    intro n
    induction n with
    | zero => intro x4 x5 g0 g1 q h; exact absurd (show none = some q from h) (fun h => by cases h)
    | succ n ih =>
      intro x4 x5 g0 g1 q h hK
      replace h : zf_Pilot_spread_288_l0_b g2 (zf_Pilot_spread_288_l0 g2 n) x4 x5 g0 g1 = some q := h
      unfold zf_Pilot_spread_288_l0_b at h
      refine zv_ild hB zd163_22 rfl rfl ?_
      refine zv_ild hB zd163_24 rfl rfl ?_
      refine zv_cge hB zd163_26 rfl (fun hc3 => ?_) (fun hc3 => ?_)
      · rw [if_neg (Int.not_lt.mpr hc3)] at h
        have hq := Option.some.inj h
        subst hq
        refine zv_wk hB (L' := [.inr 1000, .inr 1000, .inr 1000, .inr 1000, .inr 1000, .inr 1000, .inr 1000, .inr 1000, .inr 1000]) (F' := []) ⟨fun (h : zv_is (.inr 1000)) => (Nat.lt_irrefl 1000 h).elim, fun (h : zv_is (.inr 1000)) => (Nat.lt_irrefl 1000 h).elim, fun (h : zv_is (.inr 1000)) => (Nat.lt_irrefl 1000 h).elim, fun (h : zv_is (.inr 1000)) => (Nat.lt_irrefl 1000 h).elim, fun (h : zv_is (.inr 1000)) => (Nat.lt_irrefl 1000 h).elim, fun (h : zv_is (.inr 1000)) => (Nat.lt_irrefl 1000 h).elim, fun (h : zv_is (.inr 1000)) => (Nat.lt_irrefl 1000 h).elim, fun (h : zv_is (.inr 1000)) => (Nat.lt_irrefl 1000 h).elim, fun (h : zv_is (.inr 1000)) => (Nat.lt_irrefl 1000 h).elim, trivial⟩ trivial ?_
        exact hK
      · rw [if_pos hc3] at h
        refine zv_ild hB zd163_29 rfl rfl ?_
        refine zv_con hB zd163_31 rfl ?_
        refine zv_cge hB zd163_34 rfl (fun hc4 => ?_) (fun hc4 => ?_)
        · rw [if_neg (Int.not_lt.mpr hc4)] at h
          have hq := Option.some.inj h
          subst hq
          refine zv_wk hB (L' := [.inr 1000, .inr 1000, .inr 1000, .inr 1000, .inr 1000, .inr 1000, .inr 1000, .inr 1000, .inr 1000]) (F' := []) ⟨fun (h : zv_is (.inr 1000)) => (Nat.lt_irrefl 1000 h).elim, fun (h : zv_is (.inr 1000)) => (Nat.lt_irrefl 1000 h).elim, fun (h : zv_is (.inr 1000)) => (Nat.lt_irrefl 1000 h).elim, fun (h : zv_is (.inr 1000)) => (Nat.lt_irrefl 1000 h).elim, fun (h : zv_is (.inr 1000)) => (Nat.lt_irrefl 1000 h).elim, fun (h : zv_is (.inr 1000)) => (Nat.lt_irrefl 1000 h).elim, fun (h : zv_is (.inr 1000)) => (Nat.lt_irrefl 1000 h).elim, fun (h : zv_is (.inr 1000)) => (Nat.lt_irrefl 1000 h).elim, fun (h : zv_is (.inr 1000)) => (Nat.lt_irrefl 1000 h).elim, trivial⟩ trivial ?_
          exact hK
        · rw [if_pos hc4] at h
          refine zv_ald hB zd163_37 rfl rfl rfl ?_
          refine zv_getr hB zd163_38 rfl ?_
          refine zv_ild hB zd163_41 rfl rfl ?_
          obtain ⟨c5, h⟩ := zi_if h
          refine zv_iald hB zd163_43 rfl rfl (zi_ix_ok c5).1 (zi_ix_ok c5).2 (fun _ _ => ?_)
          refine zv_ist hB zd163_44 rfl rfl rfl ?_
          refine zv_con hB zd163_46 rfl ?_
          refine zv_ist hB zd163_47 rfl rfl rfl ?_
          obtain ⟨q14, hq14, h⟩ := zi_bind h
          refine l1 _ _ _ _ _ _ _ q14 hq14 ?_
          show good 115 [.inr 0, .inr 1, .inr 1000, .inr 2, .inl q14.1, .inl x5, .inr 1000, .inr 1000, .inr 1000] [] [] [q14.2.1, q14.2.2, g2]
          refine zv_iincw hB zd163_115 rfl rfl ?_
          refine zv_goto hB zd163_118 rfl ?_
          exact ih _ _ _ _ q h hK
  unfold zf_Pilot_spread_288 at h
  refine zv_ald hB zd163_0 rfl rfl rfl ?_
  refine zv_con hB zd163_1 rfl ?_
  obtain ⟨r1, hr1, h⟩ := zi_bind h
  refine zv_cs hB (zv_emq (va2 := [.inr 2, .inl (-1)]) (F := []) (F' := []) (G := [g0, g1, g2]) (G' := [r1, g1, g2]) (ρ := [2]) (φ := []) (ψ := [0]) [] [some 0, none, none] zyw_Arrays_fill_288 zyw_Pilot_spread_288 zye_Pilot_spread_288 (by decide +kernel) (zt_Arrays_fill_288 hr1) trivial ⟨rfl, trivial⟩ rfl rfl rfl rfl rfl rfl rfl) zd163_2 zxt78 rfl (by decide) (by decide) rfl ?_
  refine zv_ald hB zd163_5 rfl rfl rfl ?_
  refine zv_ild hB zd163_6 rfl rfl ?_
  refine zv_con hB zd163_7 rfl ?_
  obtain ⟨c2, h⟩ := zi_if h
  refine zv_iast hB zd163_8 rfl rfl (zi_ix_ok c2).1 (zi_ix_ok c2).2 ?_
  refine zv_ald hB zd163_9 rfl rfl rfl ?_
  refine zv_getr hB zd163_10 rfl ?_
  refine zv_con hB zd163_13 rfl ?_
  refine zv_ild hB zd163_14 rfl rfl ?_
  refine zv_iast hB zd163_15 rfl rfl (by decide) (by decide) ?_
  refine zv_con hB zd163_16 rfl ?_
  refine zv_ist hB zd163_17 rfl rfl rfl ?_
  refine zv_con hB zd163_19 rfl ?_
  refine zv_ist hB zd163_20 rfl rfl rfl ?_
  obtain ⟨q15, hq15, h⟩ := zi_bind h
  refine zv_wk hB (L' := [.inr 0, .inr 1, .inr 1000, .inr 2, .inl 1, .inl 0, .inr 1000, .inr 1000, .inr 1000]) (F' := []) ⟨fun _ => rfl, fun _ => rfl, fun (h : zv_is (.inr 1000)) => (Nat.lt_irrefl 1000 h).elim, fun _ => rfl, fun _ => rfl, fun _ => rfl, fun (h : zv_is (.inr 1000)) => (Nat.lt_irrefl 1000 h).elim, fun (h : zv_is (.inr 1000)) => (Nat.lt_irrefl 1000 h).elim, fun (h : zv_is (.inr 1000)) => (Nat.lt_irrefl 1000 h).elim, trivial⟩ trivial ?_
  refine l0 _ _ _ _ _ q15 hq15 ?_
  show good 121 [.inr 1000, .inr 1000, .inr 1000, .inr 1000, .inr 1000, .inr 1000, .inr 1000, .inr 1000, .inr 1000] [] [] [q15.1, q15.2, g2]
  have hw := Option.some.inj h
  subst hw
  exact hvret _ _ _ _ zd163_121 trivial ⟨rfl, rfl, rfl⟩
/-! Pilot_hoursTo (I)I -/
-- names: 0 Pilot('arg', 0), 1 (0, 288)(0, 9, 12), 2 (0, 288)(0, 9, 13)
-- fields: ; arrays: g0 = 1, g1 = 2; out: [('ret', None)]
abbrev zy_Pilot_hoursTo : zNL := (3, [(0, 9)], [], [(0, 9, 12, 1), (0, 9, 13, 2)], [(1, 0, 288, 0), (2, 0, 288, 1)])
theorem zyw_Pilot_hoursTo : zv_wf zy_Pilot_hoursTo = true := by decide +kernel
theorem zye_Pilot_hoursTo : zv_ek2 zy_Pilot_hoursTo = true := by decide +kernel
def zf_Pilot_hoursTo (x1 : Int) (g0 : (Int → Int)) (g1 : (Int → Int)) : Option (Int) := cond (zi_ix x1 288) ((zf_Math_max (g0 x1) (g1 x1)).bind fun r2 => (some r2)) none
theorem zd164_0 : decode zxm164.2.1 0 = .ok (.aload_n 0, 1) := by decide +kernel
theorem zd164_1 : decode zxm164.2.1 1 = .ok (.getfield 49, 3) := by decide +kernel
theorem zd164_4 : decode zxm164.2.1 4 = .ok (.iload_n 1, 1) := by decide +kernel
theorem zd164_5 : decode zxm164.2.1 5 = .ok (.iaload, 1) := by decide +kernel
theorem zd164_6 : decode zxm164.2.1 6 = .ok (.aload_n 0, 1) := by decide +kernel
theorem zd164_7 : decode zxm164.2.1 7 = .ok (.getfield 52, 3) := by decide +kernel
theorem zd164_10 : decode zxm164.2.1 10 = .ok (.iload_n 1, 1) := by decide +kernel
theorem zd164_11 : decode zxm164.2.1 11 = .ok (.iaload, 1) := by decide +kernel
theorem zd164_12 : decode zxm164.2.1 12 = .ok (.invokestatic 165, 3) := by decide +kernel
theorem zd164_15 : decode zxm164.2.1 15 = .ok (.ireturn, 1) := by decide +kernel
theorem zt_Pilot_hoursTo {x1 : Int} {g0 : (Int → Int)} {g1 : (Int → Int)} {o : Int} (h : zf_Pilot_hoursTo x1 g0 g1 = some o) : zv_Fn z_TB z_cl z_KX zy_Pilot_hoursTo zxm164 (1, 60) [.inr 0, .inl x1] [] [g0, g1] (some o) [] [g0, g1] := zv_meth (K := (z_KF6, z_KC6, z_KL6, z_KT6, [], [], [], none)) (FT := z_FT) (MT := z_MT) (n := 2) zxp164 (z_ks6 _ (fun _ h => List.mem_cons_of_mem _ h) _ _ _ _ (fun j r h _ => by cases h)) (fun _ _ => zs_KX_p) zyw_Pilot_hoursTo (fun va F G h => by obtain ⟨rfl, _⟩ := h; rfl) (fun va F G h => by obtain ⟨rfl, _⟩ := h; rfl) rfl fun good va F G hB hret hvret hP => by
  obtain ⟨rfl, rfl, rfl⟩ := hP
  unfold zf_Pilot_hoursTo at h
  refine zv_ald hB zd164_0 rfl rfl rfl ?_
  refine zv_getr hB zd164_1 rfl ?_
  refine zv_ild hB zd164_4 rfl rfl ?_
  obtain ⟨c1, h⟩ := zi_if h
  refine zv_iald hB zd164_5 rfl rfl (zi_ix_ok c1).1 (zi_ix_ok c1).2 (fun _ _ => ?_)
  refine zv_ald hB zd164_6 rfl rfl rfl ?_
  refine zv_getr hB zd164_7 rfl ?_
  refine zv_ild hB zd164_10 rfl rfl ?_
  refine zv_iald hB zd164_11 rfl rfl (zi_ix_ok c1).1 (zi_ix_ok c1).2 (fun _ _ => ?_)
  obtain ⟨r2, hr2, h⟩ := zi_bind h
  refine zv_cs hB (zv_emq (va2 := [.inl (g0 x1), .inl (g1 x1)]) (F := []) (F' := []) (G := [g0, g1]) (G' := [g0, g1]) (ρ := []) (φ := []) (ψ := []) [] [none, none] zyw_Math_max zyw_Pilot_hoursTo zye_Pilot_hoursTo (by decide +kernel) (zt_Math_max hr2) trivial trivial rfl rfl rfl rfl rfl rfl rfl) zd164_12 zxt55 rfl (by decide) (by decide) rfl ?_
  have hw := Option.some.inj h
  subst hw
  exact hret _ _ _ _ _ zd164_15 (by trivial) ⟨rfl, rfl, rfl⟩
/-! Pilot_meetingPlace (LStarTales$Sea;II)I -/
-- names: 0 Pilot('arg', 0), 1 Sea('arg', 1), 2 (0, 288)(0, 9, 12), 3 (0, 288)(0, 9, 14), 4 (0, 12)(1, 2, 0), 5 (0, 288)(0, 9, 13)
-- fields: ; arrays: g0 = 2, g1 = 3, g2 = 4, g3 = 5; out: [('ret', None), ('g', 0), ('g', 1), ('g', 3)]
abbrev zy_Pilot_meetingPlace : zNL := (6, [(0, 9), (1, 2)], [], [(0, 9, 12, 2), (0, 9, 14, 3), (1, 2, 0, 4), (0, 9, 13, 5)], [(2, 0, 288, 0), (3, 0, 288, 1), (4, 0, 12, 2), (5, 0, 288, 3)])
theorem zyw_Pilot_meetingPlace : zv_wf zy_Pilot_meetingPlace = true := by decide +kernel
theorem zye_Pilot_meetingPlace : zv_ek2 zy_Pilot_meetingPlace = true := by decide +kernel
def zf_Pilot_meetingPlace_l0_b (g0 : (Int → Int)) (g3 : (Int → Int)) (rec : Int → Int → Option (Int)) (x4 : Int) (x5 : Int) : Option (Int) := if x5 < 288 then (cond (zi_ix x5 288) (if (g0 x5) = (-1) then (rec x4 (zi_w (x5 + 1))) else (if (g3 x5) = (-1) then (rec x4 (zi_w (x5 + 1))) else (if x4 = (-1) then (rec x5 (zi_w (x5 + 1))) else ((zf_Pilot_hoursTo x5 g0 g3).bind fun r11 => ((zf_Pilot_hoursTo x4 g0 g3).bind fun r12 => (if r11 < r12 then (rec x5 (zi_w (x5 + 1))) else (rec x4 (zi_w (x5 + 1))))))))) none) else (some x4)
def zf_Pilot_meetingPlace_l0 (g0 : (Int → Int)) (g3 : (Int → Int)) : Nat → Int → Int → Option (Int)
  | 0, _, _ => none
  | n + 1, x4, x5 => zf_Pilot_meetingPlace_l0_b g0 g3 (zf_Pilot_meetingPlace_l0 g0 g3 n) x4 x5
def zf_Pilot_meetingPlace (x2 : Int) (x3 : Int) (g0 : (Int → Int)) (g1 : (Int → Int)) (g2 : (Int → Int)) (g3 : (Int → Int)) : Option (Int × (Int → Int) × (Int → Int) × (Int → Int)) := (zf_Pilot_spread_288 x2 g0 g1 g2).bind fun r1 => ((zf_Pilot_spread_288 x3 g3 r1.2 g2).bind fun r2 => ((zf_Pilot_meetingPlace_l0 r1.1 r2.1 zi_fu (-1) 0).bind fun q14 => (some (q14, r1.1, r2.2, r2.1))))
theorem zd162_0 : decode zxm162.2.1 0 = .ok (.aload_n 0, 1) := by decide +kernel
theorem zd162_1 : decode zxm162.2.1 1 = .ok (.aload_n 1, 1) := by decide +kernel
theorem zd162_2 : decode zxm162.2.1 2 = .ok (.iload_n 2, 1) := by decide +kernel
theorem zd162_3 : decode zxm162.2.1 3 = .ok (.aload_n 0, 1) := by decide +kernel
theorem zd162_4 : decode zxm162.2.1 4 = .ok (.getfield 49, 3) := by decide +kernel
theorem zd162_7 : decode zxm162.2.1 7 = .ok (.invokevirtual 158, 3) := by decide +kernel
theorem zd162_10 : decode zxm162.2.1 10 = .ok (.aload_n 0, 1) := by decide +kernel
theorem zd162_11 : decode zxm162.2.1 11 = .ok (.aload_n 1, 1) := by decide +kernel
theorem zd162_12 : decode zxm162.2.1 12 = .ok (.iload_n 3, 1) := by decide +kernel
theorem zd162_13 : decode zxm162.2.1 13 = .ok (.aload_n 0, 1) := by decide +kernel
theorem zd162_14 : decode zxm162.2.1 14 = .ok (.getfield 52, 3) := by decide +kernel
theorem zd162_17 : decode zxm162.2.1 17 = .ok (.invokevirtual 158, 3) := by decide +kernel
theorem zd162_20 : decode zxm162.2.1 20 = .ok (.iconst (-1), 1) := by decide +kernel
theorem zd162_21 : decode zxm162.2.1 21 = .ok (.istore 4, 2) := by decide +kernel
theorem zd162_23 : decode zxm162.2.1 23 = .ok (.iconst 0, 1) := by decide +kernel
theorem zd162_24 : decode zxm162.2.1 24 = .ok (.istore 5, 2) := by decide +kernel
theorem zd162_26 : decode zxm162.2.1 26 = .ok (.iload 5, 2) := by decide +kernel
theorem zd162_28 : decode zxm162.2.1 28 = .ok (.sipush 288, 3) := by decide +kernel
theorem zd162_31 : decode zxm162.2.1 31 = .ok (.if_icmp .ge 68, 3) := by decide +kernel
theorem zd162_34 : decode zxm162.2.1 34 = .ok (.aload_n 0, 1) := by decide +kernel
theorem zd162_35 : decode zxm162.2.1 35 = .ok (.getfield 49, 3) := by decide +kernel
theorem zd162_38 : decode zxm162.2.1 38 = .ok (.iload 5, 2) := by decide +kernel
theorem zd162_40 : decode zxm162.2.1 40 = .ok (.iaload, 1) := by decide +kernel
theorem zd162_41 : decode zxm162.2.1 41 = .ok (.iconst (-1), 1) := by decide +kernel
theorem zd162_42 : decode zxm162.2.1 42 = .ok (.if_icmp .eq 18, 3) := by decide +kernel
theorem zd162_45 : decode zxm162.2.1 45 = .ok (.aload_n 0, 1) := by decide +kernel
theorem zd162_46 : decode zxm162.2.1 46 = .ok (.getfield 52, 3) := by decide +kernel
theorem zd162_49 : decode zxm162.2.1 49 = .ok (.iload 5, 2) := by decide +kernel
theorem zd162_51 : decode zxm162.2.1 51 = .ok (.iaload, 1) := by decide +kernel
theorem zd162_52 : decode zxm162.2.1 52 = .ok (.iconst (-1), 1) := by decide +kernel
theorem zd162_53 : decode zxm162.2.1 53 = .ok (.if_icmp .eq 7, 3) := by decide +kernel
theorem zd162_56 : decode zxm162.2.1 56 = .ok (.iconst 1, 1) := by decide +kernel
theorem zd162_57 : decode zxm162.2.1 57 = .ok (.goto 4, 3) := by decide +kernel
theorem zd162_60 : decode zxm162.2.1 60 = .ok (.iconst 0, 1) := by decide +kernel
theorem zd162_61 : decode zxm162.2.1 61 = .ok (.istore 6, 2) := by decide +kernel
theorem zd162_63 : decode zxm162.2.1 63 = .ok (.iload 6, 2) := by decide +kernel
theorem zd162_65 : decode zxm162.2.1 65 = .ok (.ifCond .eq 28, 3) := by decide +kernel
theorem zd162_68 : decode zxm162.2.1 68 = .ok (.iload 4, 2) := by decide +kernel
theorem zd162_70 : decode zxm162.2.1 70 = .ok (.iconst (-1), 1) := by decide +kernel
theorem zd162_71 : decode zxm162.2.1 71 = .ok (.if_icmp .eq 18, 3) := by decide +kernel
theorem zd162_74 : decode zxm162.2.1 74 = .ok (.aload_n 0, 1) := by decide +kernel
theorem zd162_75 : decode zxm162.2.1 75 = .ok (.iload 5, 2) := by decide +kernel
theorem zd162_77 : decode zxm162.2.1 77 = .ok (.invokevirtual 162, 3) := by decide +kernel
theorem zd162_80 : decode zxm162.2.1 80 = .ok (.aload_n 0, 1) := by decide +kernel
theorem zd162_81 : decode zxm162.2.1 81 = .ok (.iload 4, 2) := by decide +kernel
theorem zd162_83 : decode zxm162.2.1 83 = .ok (.invokevirtual 162, 3) := by decide +kernel
theorem zd162_86 : decode zxm162.2.1 86 = .ok (.if_icmp .ge 7, 3) := by decide +kernel
theorem zd162_89 : decode zxm162.2.1 89 = .ok (.iload 5, 2) := by decide +kernel
theorem zd162_91 : decode zxm162.2.1 91 = .ok (.istore 4, 2) := by decide +kernel
theorem zd162_93 : decode zxm162.2.1 93 = .ok (.iinc 5 1, 3) := by decide +kernel
theorem zd162_96 : decode zxm162.2.1 96 = .ok (.goto (-70), 3) := by decide +kernel
theorem zd162_99 : decode zxm162.2.1 99 = .ok (.iload 4, 2) := by decide +kernel
theorem zd162_101 : decode zxm162.2.1 101 = .ok (.ireturn, 1) := by decide +kernel
theorem zt_Pilot_meetingPlace {x2 : Int} {x3 : Int} {g0 : (Int → Int)} {g1 : (Int → Int)} {g2 : (Int → Int)} {g3 : (Int → Int)} {o : Int × (Int → Int) × (Int → Int) × (Int → Int)} (h : zf_Pilot_meetingPlace x2 x3 g0 g1 g2 g3 = some o) : zv_Fn z_TB z_cl z_KX zy_Pilot_meetingPlace zxm162 (4, 240) [.inr 0, .inr 1, .inl x2, .inl x3] [] [g0, g1, g2, g3] (some o.1) [] [o.2.1, o.2.2.1, g2, o.2.2.2] := zv_meth (K := (z_KF6, z_KC6, z_KL6, z_KT6, [], [], [], none)) (FT := z_FT) (MT := z_MT) (n := 4) zxp162 (z_ks6 _ (fun _ h => List.mem_cons_of_mem _ h) _ _ _ _ (fun j r h _ => by cases h)) (fun _ _ => zs_KX_p) zyw_Pilot_meetingPlace (fun va F G h => by obtain ⟨rfl, _⟩ := h; rfl) (fun va F G h => by obtain ⟨rfl, _⟩ := h; rfl) rfl fun good va F G hB hret hvret hP => by
  obtain ⟨rfl, rfl, rfl⟩ := hP
  have l0 : ∀ (n : Nat) (x4 : Int) (x5 : Int) (g0 : (Int → Int)) (g1 : (Int → Int)) (g3 : (Int → Int)) (q : Int), zf_Pilot_meetingPlace_l0 g0 g3 n x4 x5 = some q → (good 99 [.inr 1000, .inr 1000, .inr 1000, .inr 1000, .inl q, .inr 1000, .inr 1000] [] [] [g0, g1, g2, g3]) → good 26 [.inr 0, .inr 1000, .inr 1000, .inr 1000, .inl x4, .inl x5, .inr 1000] [] [] [g0, g1, g2, g3] := by
    intro n
    induction n with
    | zero => intro x4 x5 g0 g1 g3 q h; exact absurd (show none = some q from h) (fun h => by cases h)
    | succ n ih =>
      intro x4 x5 g0 g1 g3 q h hK
      replace h : zf_Pilot_meetingPlace_l0_b g0 g3 (zf_Pilot_meetingPlace_l0 g0 g3 n) x4 x5 = some q := h
      unfold zf_Pilot_meetingPlace_l0_b at h
      refine zv_ild hB zd162_26 rfl rfl ?_
      refine zv_con hB zd162_28 rfl ?_
      refine zv_cge hB zd162_31 rfl (fun hc3 => ?_) (fun hc3 => ?_)
      · rw [if_neg (Int.not_lt.mpr hc3)] at h
        have hq := Option.some.inj h
        subst hq
        refine zv_wk hB (L' := [.inr 1000, .inr 1000, .inr 1000, .inr 1000, .inl x4, .inr 1000, .inr 1000]) (F' := []) ⟨fun (h : zv_is (.inr 1000)) => (Nat.lt_irrefl 1000 h).elim, fun (h : zv_is (.inr 1000)) => (Nat.lt_irrefl 1000 h).elim, fun (h : zv_is (.inr 1000)) => (Nat.lt_irrefl 1000 h).elim, fun (h : zv_is (.inr 1000)) => (Nat.lt_irrefl 1000 h).elim, fun _ => rfl, fun (h : zv_is (.inr 1000)) => (Nat.lt_irrefl 1000 h).elim, fun (h : zv_is (.inr 1000)) => (Nat.lt_irrefl 1000 h).elim, trivial⟩ trivial ?_
        exact hK
      · rw [if_pos hc3] at h
        refine zv_ald hB zd162_34 rfl rfl rfl ?_
        refine zv_getr hB zd162_35 rfl ?_
        refine zv_ild hB zd162_38 rfl rfl ?_
        obtain ⟨c4, h⟩ := zi_if h
        refine zv_iald hB zd162_40 rfl rfl (zi_ix_ok c4).1 (zi_ix_ok c4).2 (fun _ _ => ?_)
        refine zv_con hB zd162_41 rfl ?_
        refine zv_ceq hB zd162_42 rfl (fun hc5 => ?_) (fun hc5 => ?_)
        · rw [if_pos hc5] at h
          refine zv_con hB zd162_60 rfl ?_
          refine zv_ist hB zd162_61 rfl rfl rfl ?_
          refine zv_ild hB zd162_63 rfl rfl ?_
          refine zv_zeq hB zd162_65 rfl (fun _ => ?_) (fun hc => absurd hc (by decide))
          refine zv_iincw hB zd162_93 rfl rfl ?_
          refine zv_goto hB zd162_96 rfl ?_
          refine zv_wk hB (L' := [.inr 0, .inr 1000, .inr 1000, .inr 1000, .inl x4, .inl (zi_w (x5 + 1)), .inr 1000]) (F' := []) ⟨fun _ => rfl, fun (h : zv_is (.inr 1000)) => (Nat.lt_irrefl 1000 h).elim, fun (h : zv_is (.inr 1000)) => (Nat.lt_irrefl 1000 h).elim, fun (h : zv_is (.inr 1000)) => (Nat.lt_irrefl 1000 h).elim, fun _ => rfl, fun _ => rfl, fun (h : zv_is (.inr 1000)) => (Nat.lt_irrefl 1000 h).elim, trivial⟩ trivial ?_
          exact ih _ _ _ _ _ q h hK
        · rw [if_neg hc5] at h
          refine zv_ald hB zd162_45 rfl rfl rfl ?_
          refine zv_getr hB zd162_46 rfl ?_
          refine zv_ild hB zd162_49 rfl rfl ?_
          refine zv_iald hB zd162_51 rfl rfl (zi_ix_ok c4).1 (zi_ix_ok c4).2 (fun _ _ => ?_)
          refine zv_con hB zd162_52 rfl ?_
          refine zv_ceq hB zd162_53 rfl (fun hc7 => ?_) (fun hc7 => ?_)
          · rw [if_pos hc7] at h
            refine zv_con hB zd162_60 rfl ?_
            refine zv_ist hB zd162_61 rfl rfl rfl ?_
            refine zv_ild hB zd162_63 rfl rfl ?_
            refine zv_zeq hB zd162_65 rfl (fun _ => ?_) (fun hc => absurd hc (by decide))
            refine zv_iincw hB zd162_93 rfl rfl ?_
            refine zv_goto hB zd162_96 rfl ?_
            refine zv_wk hB (L' := [.inr 0, .inr 1000, .inr 1000, .inr 1000, .inl x4, .inl (zi_w (x5 + 1)), .inr 1000]) (F' := []) ⟨fun _ => rfl, fun (h : zv_is (.inr 1000)) => (Nat.lt_irrefl 1000 h).elim, fun (h : zv_is (.inr 1000)) => (Nat.lt_irrefl 1000 h).elim, fun (h : zv_is (.inr 1000)) => (Nat.lt_irrefl 1000 h).elim, fun _ => rfl, fun _ => rfl, fun (h : zv_is (.inr 1000)) => (Nat.lt_irrefl 1000 h).elim, trivial⟩ trivial ?_
            exact ih _ _ _ _ _ q h hK
          · rw [if_neg hc7] at h
            refine zv_con hB zd162_56 rfl ?_
            refine zv_goto hB zd162_57 rfl ?_
            refine zv_ist hB zd162_61 rfl rfl rfl ?_
            refine zv_ild hB zd162_63 rfl rfl ?_
            refine zv_zeq hB zd162_65 rfl (fun hc => absurd hc (by decide)) (fun _ => ?_)
            refine zv_ild hB zd162_68 rfl rfl ?_
            refine zv_con hB zd162_70 rfl ?_
            refine zv_ceq hB zd162_71 rfl (fun hc10 => ?_) (fun hc10 => ?_)
            · rw [if_pos hc10] at h
              refine zv_ild hB zd162_89 rfl rfl ?_
              refine zv_ist hB zd162_91 rfl rfl rfl ?_
              refine zv_iincw hB zd162_93 rfl rfl ?_
              refine zv_goto hB zd162_96 rfl ?_
              refine zv_wk hB (L' := [.inr 0, .inr 1000, .inr 1000, .inr 1000, .inl x5, .inl (zi_w (x5 + 1)), .inr 1000]) (F' := []) ⟨fun _ => rfl, fun (h : zv_is (.inr 1000)) => (Nat.lt_irrefl 1000 h).elim, fun (h : zv_is (.inr 1000)) => (Nat.lt_irrefl 1000 h).elim, fun (h : zv_is (.inr 1000)) => (Nat.lt_irrefl 1000 h).elim, fun _ => rfl, fun _ => rfl, fun (h : zv_is (.inr 1000)) => (Nat.lt_irrefl 1000 h).elim, trivial⟩ trivial ?_
              exact ih _ _ _ _ _ q h hK
            · rw [if_neg hc10] at h
              refine zv_ald hB zd162_74 rfl rfl rfl ?_
              refine zv_ild hB zd162_75 rfl rfl ?_
              obtain ⟨r11, hr11, h⟩ := zi_bind h
              refine zv_cv hB (zv_emq (va2 := [.inr 0, .inl x5]) (F := []) (F' := []) (G := [g0, g1, g2, g3]) (G' := [g0, g1, g2, g3]) (ρ := [0, 2, 5]) (φ := []) (ψ := [0, 3]) [] [some 0, none, none, some 1] zyw_Pilot_hoursTo zyw_Pilot_meetingPlace zye_Pilot_meetingPlace (by decide +kernel) (zt_Pilot_hoursTo hr11) trivial ⟨rfl, rfl, trivial⟩ rfl rfl rfl rfl rfl rfl rfl) zd162_77 zxt164 rfl (by decide) (by decide) rfl ?_
              refine zv_ald hB zd162_80 rfl rfl rfl ?_
              refine zv_ild hB zd162_81 rfl rfl ?_
              obtain ⟨r12, hr12, h⟩ := zi_bind h
              refine zv_cv hB (zv_emq (va2 := [.inr 0, .inl x4]) (F := []) (F' := []) (G := [g0, g1, g2, g3]) (G' := [g0, g1, g2, g3]) (ρ := [0, 2, 5]) (φ := []) (ψ := [0, 3]) [] [some 0, none, none, some 1] zyw_Pilot_hoursTo zyw_Pilot_meetingPlace zye_Pilot_meetingPlace (by decide +kernel) (zt_Pilot_hoursTo hr12) trivial ⟨rfl, rfl, trivial⟩ rfl rfl rfl rfl rfl rfl rfl) zd162_83 zxt164 rfl (by decide) (by decide) rfl ?_
              refine zv_cge hB zd162_86 rfl (fun hc13 => ?_) (fun hc13 => ?_)
              · rw [if_neg (Int.not_lt.mpr hc13)] at h
                refine zv_iincw hB zd162_93 rfl rfl ?_
                refine zv_goto hB zd162_96 rfl ?_
                refine zv_wk hB (L' := [.inr 0, .inr 1000, .inr 1000, .inr 1000, .inl x4, .inl (zi_w (x5 + 1)), .inr 1000]) (F' := []) ⟨fun _ => rfl, fun (h : zv_is (.inr 1000)) => (Nat.lt_irrefl 1000 h).elim, fun (h : zv_is (.inr 1000)) => (Nat.lt_irrefl 1000 h).elim, fun (h : zv_is (.inr 1000)) => (Nat.lt_irrefl 1000 h).elim, fun _ => rfl, fun _ => rfl, fun (h : zv_is (.inr 1000)) => (Nat.lt_irrefl 1000 h).elim, trivial⟩ trivial ?_
                exact ih _ _ _ _ _ q h hK
              · rw [if_pos hc13] at h
                refine zv_ild hB zd162_89 rfl rfl ?_
                refine zv_ist hB zd162_91 rfl rfl rfl ?_
                refine zv_iincw hB zd162_93 rfl rfl ?_
                refine zv_goto hB zd162_96 rfl ?_
                refine zv_wk hB (L' := [.inr 0, .inr 1000, .inr 1000, .inr 1000, .inl x5, .inl (zi_w (x5 + 1)), .inr 1000]) (F' := []) ⟨fun _ => rfl, fun (h : zv_is (.inr 1000)) => (Nat.lt_irrefl 1000 h).elim, fun (h : zv_is (.inr 1000)) => (Nat.lt_irrefl 1000 h).elim, fun (h : zv_is (.inr 1000)) => (Nat.lt_irrefl 1000 h).elim, fun _ => rfl, fun _ => rfl, fun (h : zv_is (.inr 1000)) => (Nat.lt_irrefl 1000 h).elim, trivial⟩ trivial ?_
                exact ih _ _ _ _ _ q h hK
  unfold zf_Pilot_meetingPlace at h
  refine zv_ald hB zd162_0 rfl rfl rfl ?_
  refine zv_ald hB zd162_1 rfl rfl rfl ?_
  refine zv_ild hB zd162_2 rfl rfl ?_
  refine zv_ald hB zd162_3 rfl rfl rfl ?_
  refine zv_getr hB zd162_4 rfl ?_
  obtain ⟨r1, hr1, h⟩ := zi_bind h
  refine zv_cv hB (zv_emq (va2 := [.inr 0, .inr 1, .inl x2, .inr 2]) (F := []) (F' := []) (G := [g0, g1, g2, g3]) (G' := [r1.1, r1.2, g2, g3]) (ρ := [0, 1, 2, 3, 4]) (φ := []) (ψ := [0, 1, 2]) [] [some 0, some 1, some 2, none] zyw_Pilot_spread_288 zyw_Pilot_meetingPlace zye_Pilot_meetingPlace (by decide +kernel) (zt_Pilot_spread_288 hr1) trivial ⟨rfl, rfl, rfl, trivial⟩ rfl rfl rfl rfl rfl rfl rfl) zd162_7 zxt163 rfl (by decide) (by decide) rfl ?_
  refine zv_ald hB zd162_10 rfl rfl rfl ?_
  refine zv_ald hB zd162_11 rfl rfl rfl ?_
  refine zv_ild hB zd162_12 rfl rfl ?_
  refine zv_ald hB zd162_13 rfl rfl rfl ?_
  refine zv_getr hB zd162_14 rfl ?_
  obtain ⟨r2, hr2, h⟩ := zi_bind h
  refine zv_cv hB (zv_emq (va2 := [.inr 0, .inr 1, .inl x3, .inr 5]) (F := []) (F' := []) (G := [r1.1, r1.2, g2, g3]) (G' := [r1.1, r2.2, g2, r2.1]) (ρ := [0, 1, 5, 3, 4]) (φ := []) (ψ := [3, 1, 2]) [] [none, some 1, some 2, some 0] zyw_Pilot_spread_288 zyw_Pilot_meetingPlace zye_Pilot_meetingPlace (by decide +kernel) (zt_Pilot_spread_288 hr2) trivial ⟨rfl, rfl, rfl, trivial⟩ rfl rfl rfl rfl rfl rfl rfl) zd162_17 zxt163 rfl (by decide) (by decide) rfl ?_
  refine zv_con hB zd162_20 rfl ?_
  refine zv_ist hB zd162_21 rfl rfl rfl ?_
  refine zv_con hB zd162_23 rfl ?_
  refine zv_ist hB zd162_24 rfl rfl rfl ?_
  obtain ⟨q14, hq14, h⟩ := zi_bind h
  refine zv_wk hB (L' := [.inr 0, .inr 1000, .inr 1000, .inr 1000, .inl (-1), .inl 0, .inr 1000]) (F' := []) ⟨fun _ => rfl, fun (h : zv_is (.inr 1000)) => (Nat.lt_irrefl 1000 h).elim, fun (h : zv_is (.inr 1000)) => (Nat.lt_irrefl 1000 h).elim, fun (h : zv_is (.inr 1000)) => (Nat.lt_irrefl 1000 h).elim, fun _ => rfl, fun _ => rfl, fun (h : zv_is (.inr 1000)) => (Nat.lt_irrefl 1000 h).elim, trivial⟩ trivial ?_
  refine l0 _ _ _ _ _ _ q14 hq14 ?_
  show good 99 [.inr 1000, .inr 1000, .inr 1000, .inr 1000, .inl q14, .inr 1000, .inr 1000] [] [] [r1.1, r2.2, g2, r2.1]
  refine zv_ild hB zd162_99 rfl rfl ?_
  have hw := Option.some.inj h
  subst hw
  exact hret _ _ _ _ _ zd162_101 (by trivial) ⟨rfl, rfl, rfl⟩
end
