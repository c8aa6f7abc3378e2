/-! 62h.dec, 62i.dec -/
section
/-! Methods as functions, and that they do what these do. -/
/-! M_laysPatch (I)V -/
-- names: 0 StarTalesModel('arg', 0), 1 (0, 422)(0, 12, 0), 2 (0, 14)(0, 12, 21), 3 (0, 13)(0, 12, 26), 4 (0, 14)(0, 12, 23), 5 (0, 14)(0, 12, 24), 6 (0, 220)(0, 12, 20), 7 (0, 220)(0, 12, 25), 8 (0, 24)(0, 12, 44), 9 (0, 288)(0, 12, 43), 10 (0, 6912)(0, 12, 42)
-- fields: f0 = 0.clauses_; arrays: g0 = 1, g1 = 2, g2 = 3, g3 = 4, g4 = 5, g5 = 6, g6 = 7, g7 = 8, g8 = 9, g9 = 10; out: [('g', 2), ('g', 6), ('g', 7), ('g', 8), ('g', 9)]
abbrev zy_M_laysPatch : zNL := (11, [(0, 12)], [(0, 12, 13, 0)], [(0, 12, 0, 1), (0, 12, 21, 2), (0, 12, 26, 3), (0, 12, 23, 4), (0, 12, 24, 5), (0, 12, 20, 6), (0, 12, 25, 7), (0, 12, 44, 8), (0, 12, 43, 9), (0, 12, 42, 10)], [(1, 0, 422, 0), (2, 0, 14, 1), (3, 0, 13, 2), (4, 0, 14, 3), (5, 0, 14, 4), (6, 0, 220, 5), (7, 0, 220, 6), (8, 0, 24, 7), (9, 0, 288, 8), (10, 0, 6912, 9)])
theorem zyw_M_laysPatch : zv_wf zy_M_laysPatch = true := by decide +kernel
theorem zye_M_laysPatch : zv_ek2 zy_M_laysPatch = true := by decide +kernel
def zf_M_laysPatch_l0_b (x1 : Int) (x2 : Int) (g0 : (Int → Int)) (rec : Int → Int → (Int → Int) → Option (Int × (Int → Int))) (x3 : Int) (x4 : Int) (g7 : (Int → Int)) : Option (Int × (Int → Int)) := if x4 < 24 then ((zf_M_has x2 x4).bind fun r3 => (if r3 = 0 then (rec x3 (zi_w (x4 + 1)) g7) else ((zf_M_partOf x1 x4 g0).bind fun r5 => ((zf_M_puts_24 x3 r5 g7).bind fun r6 => (rec (zi_w (x3 + 1)) (zi_w (x4 + 1)) r6))))) else (some (x3, g7))
def zf_M_laysPatch_l0 (x1 : Int) (x2 : Int) (g0 : (Int → Int)) : Nat → Int → Int → (Int → Int) → Option (Int × (Int → Int))
  | 0, _, _, _ => none
  | n + 1, x3, x4, g7 => zf_M_laysPatch_l0_b x1 x2 g0 (zf_M_laysPatch_l0 x1 x2 g0 n) x3 x4 g7
def zf_M_laysPatch_l1_b (x1 : Int) (x3 : Int) (g7 : (Int → Int)) (rec : Int → (Int → Int) → Option ((Int → Int))) (x4 : Int) (g9 : (Int → Int)) : Option ((Int → Int)) := if x4 < x3 then (cond (zi_ix x4 24) (cond (zi_ix (zi_w ((zi_w (24 * x1)) + x4)) 6912) (rec (zi_w (x4 + 1)) (zv_up g9 (zi_w ((zi_w (24 * x1)) + x4)) (g7 x4))) none) none) else (some g9)
def zf_M_laysPatch_l1 (x1 : Int) (x3 : Int) (g7 : (Int → Int)) : Nat → Int → (Int → Int) → Option ((Int → Int))
  | 0, _, _ => none
  | n + 1, x4, g9 => zf_M_laysPatch_l1_b x1 x3 g7 (zf_M_laysPatch_l1 x1 x3 g7 n) x4 g9
def zf_M_laysPatch (x1 : Int) (f0 : Int) (g0 : (Int → Int)) (g1 : (Int → Int)) (g2 : (Int → Int)) (g3 : (Int → Int)) (g4 : (Int → Int)) (g5 : (Int → Int)) (g6 : (Int → Int)) (g7 : (Int → Int)) (g8 : (Int → Int)) (g9 : (Int → Int)) : Option ((Int → Int) × (Int → Int) × (Int → Int) × (Int → Int) × (Int → Int)) := (zf_M_seenFrom x1 f0 g0 g1 g2 g3 g4 g5 g6).bind fun r1 => ((zf_M_laysPatch_l0 x1 r1.1 g0 zi_fu 0 0 g7).bind fun q7 => (cond (zi_ix x1 288) ((zf_M_laysPatch_l1 x1 q7.1 q7.2 zi_fu 0 g9).bind fun q12 => (some (r1.2.1, r1.2.2, q7.2, (zv_up g8 x1 q7.1), q12))) none))
theorem zd276_0 : decode zxm276.2.1 0 = .ok (.aload_n 0, 1) := by decide +kernel
theorem zd276_1 : decode zxm276.2.1 1 = .ok (.iload_n 1, 1) := by decide +kernel
theorem zd276_2 : decode zxm276.2.1 2 = .ok (.invokevirtual 300, 3) := by decide +kernel
theorem zd276_5 : decode zxm276.2.1 5 = .ok (.istore_n 2, 1) := by decide +kernel
theorem zd276_6 : decode zxm276.2.1 6 = .ok (.iconst 0, 1) := by decide +kernel
theorem zd276_7 : decode zxm276.2.1 7 = .ok (.istore_n 3, 1) := by decide +kernel
theorem zd276_8 : decode zxm276.2.1 8 = .ok (.iconst 0, 1) := by decide +kernel
theorem zd276_9 : decode zxm276.2.1 9 = .ok (.istore 4, 2) := by decide +kernel
theorem zd276_11 : decode zxm276.2.1 11 = .ok (.iload 4, 2) := by decide +kernel
theorem zd276_13 : decode zxm276.2.1 13 = .ok (.bipush 24, 2) := by decide +kernel
theorem zd276_15 : decode zxm276.2.1 15 = .ok (.if_icmp .ge 40, 3) := by decide +kernel
theorem zd276_18 : decode zxm276.2.1 18 = .ok (.iload_n 2, 1) := by decide +kernel
theorem zd276_19 : decode zxm276.2.1 19 = .ok (.iload 4, 2) := by decide +kernel
theorem zd276_21 : decode zxm276.2.1 21 = .ok (.invokestatic 138, 3) := by decide +kernel
theorem zd276_24 : decode zxm276.2.1 24 = .ok (.ifCond .ne 6, 3) := by decide +kernel
theorem zd276_27 : decode zxm276.2.1 27 = .ok (.goto 22, 3) := by decide +kernel
theorem zd276_30 : decode zxm276.2.1 30 = .ok (.aload_n 0, 1) := by decide +kernel
theorem zd276_31 : decode zxm276.2.1 31 = .ok (.getfield 92, 3) := by decide +kernel
theorem zd276_34 : decode zxm276.2.1 34 = .ok (.iload_n 3, 1) := by decide +kernel
theorem zd276_35 : decode zxm276.2.1 35 = .ok (.aload_n 0, 1) := by decide +kernel
theorem zd276_36 : decode zxm276.2.1 36 = .ok (.iload_n 1, 1) := by decide +kernel
theorem zd276_37 : decode zxm276.2.1 37 = .ok (.iload 4, 2) := by decide +kernel
theorem zd276_39 : decode zxm276.2.1 39 = .ok (.invokevirtual 372, 3) := by decide +kernel
theorem zd276_42 : decode zxm276.2.1 42 = .ok (.invokestatic 375, 3) := by decide +kernel
theorem zd276_45 : decode zxm276.2.1 45 = .ok (.iload_n 3, 1) := by decide +kernel
theorem zd276_46 : decode zxm276.2.1 46 = .ok (.iconst 1, 1) := by decide +kernel
theorem zd276_47 : decode zxm276.2.1 47 = .ok (.iadd, 1) := by decide +kernel
theorem zd276_48 : decode zxm276.2.1 48 = .ok (.istore_n 3, 1) := by decide +kernel
theorem zd276_49 : decode zxm276.2.1 49 = .ok (.iinc 4 1, 3) := by decide +kernel
theorem zd276_52 : decode zxm276.2.1 52 = .ok (.goto (-41), 3) := by decide +kernel
theorem zd276_55 : decode zxm276.2.1 55 = .ok (.aload_n 0, 1) := by decide +kernel
theorem zd276_56 : decode zxm276.2.1 56 = .ok (.getfield 89, 3) := by decide +kernel
theorem zd276_59 : decode zxm276.2.1 59 = .ok (.iload_n 1, 1) := by decide +kernel
theorem zd276_60 : decode zxm276.2.1 60 = .ok (.iload_n 3, 1) := by decide +kernel
theorem zd276_61 : decode zxm276.2.1 61 = .ok (.iastore, 1) := by decide +kernel
theorem zd276_62 : decode zxm276.2.1 62 = .ok (.iconst 0, 1) := by decide +kernel
theorem zd276_63 : decode zxm276.2.1 63 = .ok (.istore 4, 2) := by decide +kernel
theorem zd276_65 : decode zxm276.2.1 65 = .ok (.iload 4, 2) := by decide +kernel
theorem zd276_67 : decode zxm276.2.1 67 = .ok (.iload_n 3, 1) := by decide +kernel
theorem zd276_68 : decode zxm276.2.1 68 = .ok (.if_icmp .ge 28, 3) := by decide +kernel
theorem zd276_71 : decode zxm276.2.1 71 = .ok (.aload_n 0, 1) := by decide +kernel
theorem zd276_72 : decode zxm276.2.1 72 = .ok (.getfield 86, 3) := by decide +kernel
theorem zd276_75 : decode zxm276.2.1 75 = .ok (.bipush 24, 2) := by decide +kernel
theorem zd276_77 : decode zxm276.2.1 77 = .ok (.iload_n 1, 1) := by decide +kernel
theorem zd276_78 : decode zxm276.2.1 78 = .ok (.imul, 1) := by decide +kernel
theorem zd276_79 : decode zxm276.2.1 79 = .ok (.iload 4, 2) := by decide +kernel
theorem zd276_81 : decode zxm276.2.1 81 = .ok (.iadd, 1) := by decide +kernel
theorem zd276_82 : decode zxm276.2.1 82 = .ok (.aload_n 0, 1) := by decide +kernel
theorem zd276_83 : decode zxm276.2.1 83 = .ok (.getfield 92, 3) := by decide +kernel
theorem zd276_86 : decode zxm276.2.1 86 = .ok (.iload 4, 2) := by decide +kernel
theorem zd276_88 : decode zxm276.2.1 88 = .ok (.iaload, 1) := by decide +kernel
theorem zd276_89 : decode zxm276.2.1 89 = .ok (.iastore, 1) := by decide +kernel
theorem zd276_90 : decode zxm276.2.1 90 = .ok (.iinc 4 1, 3) := by decide +kernel
theorem zd276_93 : decode zxm276.2.1 93 = .ok (.goto (-28), 3) := by decide +kernel
theorem zd276_96 : decode zxm276.2.1 96 = .ok (.return_, 1) := by decide +kernel
theorem zt_M_laysPatch {x1 : Int} {f0 : Int} {g0 : (Int → Int)} {g1 : (Int → Int)} {g2 : (Int → Int)} {g3 : (Int → Int)} {g4 : (Int → Int)} {g5 : (Int → Int)} {g6 : (Int → Int)} {g7 : (Int → Int)} {g8 : (Int → Int)} {g9 : (Int → Int)} {o : (Int → Int) × (Int → Int) × (Int → Int) × (Int → Int) × (Int → Int)} (h : zf_M_laysPatch x1 f0 g0 g1 g2 g3 g4 g5 g6 g7 g8 g9 = some o) : zv_Fn z_TB z_cl z_KX zy_M_laysPatch zxm276 (5, 300) [.inr 0, .inl x1] [.inl f0] [g0, g1, g2, g3, g4, g5, g6, g7, g8, g9] none [.inl f0] [g0, g1, o.1, g3, g4, g5, o.2.1, o.2.2.1, o.2.2.2.1, o.2.2.2.2] := zv_meth (K := (z_KF13, z_KC13, z_KL13, z_KT13, [], [], [], none)) (FT := z_FT) (MT := z_MT) (n := 2) zxp276 (z_ks13 _ (fun _ h => List.mem_cons_of_mem _ h) _ _ _ _ (fun j r h _ => by cases h)) (fun _ _ => zs_KX_p) zyw_M_laysPatch (fun va F G h => by obtain ⟨rfl, _⟩ := h; rfl) (fun va F G h => by obtain ⟨rfl, _⟩ := h; rfl) rfl fun good va F G hB hret hvret hP => by
  obtain ⟨rfl, rfl, rfl⟩ := hP
  have l0 : ∀ (n : Nat) (x1 : Int) (x2 : Int) (x3 : Int) (x4 : Int) (g2 : (Int → Int)) (g6 : (Int → Int)) (g7 : (Int → Int)) (g8 : (Int → Int)) (g9 : (Int → Int)) (q : Int × (Int → Int)), zf_M_laysPatch_l0 x1 x2 g0 n x3 x4 g7 = some q → (good 55 [.inr 0, .inl x1, .inr 1000, .inl q.1, .inr 1000] [] [.inl f0] [g0, g1, g2, g3, g4, g5, g6, q.2, g8, g9]) → good 11 [.inr 0, .inl x1, .inl x2, .inl x3, .inl x4] [] [.inl f0] [g0, g1, g2, g3, g4, g5, g6, g7, g8, g9] := by
    intro n
    induction n with
    | zero => intro x1 x2 x3 x4 g2 g6 g7 g8 g9 q h; exact absurd (show none = some q from h) (fun h => by cases h)
    | succ n ih =>
      intro x1 x2 x3 x4 g2 g6 g7 g8 g9 q h hK
      replace h : zf_M_laysPatch_l0_b x1 x2 g0 (zf_M_laysPatch_l0 x1 x2 g0 n) x3 x4 g7 = some q := h
      unfold zf_M_laysPatch_l0_b at h
      refine zv_ild hB zd276_11 rfl rfl ?_
      refine zv_con hB zd276_13 rfl ?_
      refine zv_cge hB zd276_15 rfl (fun hc2 => ?_) (fun hc2 => ?_)
      · rw [if_neg (Int.not_lt.mpr hc2)] at h
        have hq := Option.some.inj h
        subst hq
        refine zv_wk hB (L' := [.inr 0, .inl x1, .inr 1000, .inl x3, .inr 1000]) (F' := [.inl f0]) ⟨fun _ => rfl, fun _ => rfl, fun (h : zv_is (.inr 1000)) => (Nat.lt_irrefl 1000 h).elim, fun _ => rfl, fun (h : zv_is (.inr 1000)) => (Nat.lt_irrefl 1000 h).elim, trivial⟩ ⟨fun _ => rfl, trivial⟩ ?_
        exact hK
      · rw [if_pos hc2] at h
        refine zv_ild hB zd276_18 rfl rfl ?_
        refine zv_ild hB zd276_19 rfl rfl ?_
        obtain ⟨r3, hr3, h⟩ := zi_bind h
        refine zv_cs hB (zv_emq (va2 := [.inl x2, .inl x4]) (F := [.inl f0]) (F' := [.inl f0]) (G := [g0, g1, g2, g3, g4, g5, g6, g7, g8, g9]) (G' := [g0, g1, g2, g3, g4, g5, g6, g7, g8, g9]) (ρ := []) (φ := []) (ψ := []) [none] [none, none, none, none, none, none, none, none, none, none] zyw_M_has zyw_M_laysPatch zye_M_laysPatch (by decide +kernel) (zt_M_has hr3) trivial trivial rfl rfl rfl rfl rfl rfl rfl) zd276_21 zxt204 rfl (by decide) (by decide) rfl ?_
        refine zv_zne hB zd276_24 rfl (fun hc4 => ?_) (fun hc4 => ?_)
        · rw [if_neg hc4] at h
          refine zv_ald hB zd276_30 rfl rfl rfl ?_
          refine zv_getr hB zd276_31 rfl ?_
          refine zv_ild hB zd276_34 rfl rfl ?_
          refine zv_ald hB zd276_35 rfl rfl rfl ?_
          refine zv_ild hB zd276_36 rfl rfl ?_
          refine zv_ild hB zd276_37 rfl rfl ?_
          obtain ⟨r5, hr5, h⟩ := zi_bind h
          refine zv_cv hB (zv_emq (va2 := [.inr 0, .inl x1, .inl x4]) (F := [.inl f0]) (F' := [.inl f0]) (G := [g0, g1, g2, g3, g4, g5, g6, g7, g8, g9]) (G' := [g0, g1, g2, g3, g4, g5, g6, g7, g8, g9]) (ρ := [0, 1]) (φ := []) (ψ := [0]) [none] [some 0, none, none, none, none, none, none, none, none, none] zyw_M_partOf zyw_M_laysPatch zye_M_laysPatch (by decide +kernel) (zt_M_partOf hr5) trivial ⟨rfl, trivial⟩ rfl rfl rfl rfl rfl rfl rfl) zd276_39 zxt277 rfl (by decide) (by decide) rfl ?_
          obtain ⟨r6, hr6, h⟩ := zi_bind h
          refine zv_cs hB (zv_emq (va2 := [.inr 8, .inl x3, .inl r5]) (F := [.inl f0]) (F' := [.inl f0]) (G := [g0, g1, g2, g3, g4, g5, g6, g7, g8, g9]) (G' := [g0, g1, g2, g3, g4, g5, g6, r6, g8, g9]) (ρ := [8]) (φ := []) (ψ := [7]) [none] [none, none, none, none, none, none, none, some 0, none, none] zyw_M_puts_24 zyw_M_laysPatch zye_M_laysPatch (by decide +kernel) (zt_M_puts_24 hr6) trivial ⟨rfl, trivial⟩ rfl rfl rfl rfl rfl rfl rfl) zd276_42 zxt278 rfl (by decide) (by decide) rfl ?_
          refine zv_ild hB zd276_45 rfl rfl ?_
          refine zv_con hB zd276_46 rfl ?_
          refine zv_addw hB zd276_47 ?_
          refine zv_ist hB zd276_48 rfl rfl rfl ?_
          refine zv_iincw hB zd276_49 rfl rfl ?_
          refine zv_goto hB zd276_52 rfl ?_
          exact ih _ _ _ _ _ _ _ _ _ q h hK
        · rw [if_pos hc4] at h
          refine zv_goto hB zd276_27 rfl ?_
          refine zv_iincw hB zd276_49 rfl rfl ?_
          refine zv_goto hB zd276_52 rfl ?_
          exact ih _ _ _ _ _ _ _ _ _ q h hK
  have l1 : ∀ (n : Nat) (x1 : Int) (x3 : Int) (x4 : Int) (g2 : (Int → Int)) (g6 : (Int → Int)) (g7 : (Int → Int)) (g8 : (Int → Int)) (g9 : (Int → Int)) (q : (Int → Int)), zf_M_laysPatch_l1 x1 x3 g7 n x4 g9 = some q → (good 96 [.inr 1000, .inr 1000, .inr 1000, .inr 1000, .inr 1000] [] [.inl f0] [g0, g1, g2, g3, g4, g5, g6, g7, g8, q]) → good 65 [.inr 0, .inl x1, .inr 1000, .inl x3, .inl x4] [] [.inl f0] [g0, g1, g2, g3, g4, g5, g6, g7, g8, g9] := by
    intro n
    induction n with
    | zero => intro x1 x3 x4 g2 g6 g7 g8 g9 q h; exact absurd (show none = some q from h) (fun h => by cases h)
    | succ n ih =>
      intro x1 x3 x4 g2 g6 g7 g8 g9 q h hK
      replace h : zf_M_laysPatch_l1_b x1 x3 g7 (zf_M_laysPatch_l1 x1 x3 g7 n) x4 g9 = some q := h
      unfold zf_M_laysPatch_l1_b at h
      refine zv_ild hB zd276_65 rfl rfl ?_
      refine zv_ild hB zd276_67 rfl rfl ?_
      refine zv_cge hB zd276_68 rfl (fun hc9 => ?_) (fun hc9 => ?_)
      · rw [if_neg (Int.not_lt.mpr hc9)] at h
        have hq := Option.some.inj h
        subst hq
        refine zv_wk hB (L' := [.inr 1000, .inr 1000, .inr 1000, .inr 1000, .inr 1000]) (F' := [.inl f0]) ⟨fun (h : zv_is (.inr 1000)) => (Nat.lt_irrefl 1000 h).elim, fun (h : zv_is (.inr 1000)) => (Nat.lt_irrefl 1000 h).elim, fun (h : zv_is (.inr 1000)) => (Nat.lt_irrefl 1000 h).elim, fun (h : zv_is (.inr 1000)) => (Nat.lt_irrefl 1000 h).elim, fun (h : zv_is (.inr 1000)) => (Nat.lt_irrefl 1000 h).elim, trivial⟩ ⟨fun _ => rfl, trivial⟩ ?_
        exact hK
      · rw [if_pos hc9] at h
        refine zv_ald hB zd276_71 rfl rfl rfl ?_
        refine zv_getr hB zd276_72 rfl ?_
        refine zv_con hB zd276_75 rfl ?_
        refine zv_ild hB zd276_77 rfl rfl ?_
        refine zv_mulw hB zd276_78 ?_
        refine zv_ild hB zd276_79 rfl rfl ?_
        refine zv_addw hB zd276_81 ?_
        refine zv_ald hB zd276_82 rfl rfl rfl ?_
        refine zv_getr hB zd276_83 rfl ?_
        refine zv_ild hB zd276_86 rfl rfl ?_
        obtain ⟨c10, h⟩ := zi_if h
        refine zv_iald hB zd276_88 rfl rfl (zi_ix_ok c10).1 (zi_ix_ok c10).2 (fun _ _ => ?_)
        obtain ⟨c11, h⟩ := zi_if h
        refine zv_iast hB zd276_89 rfl rfl (zi_ix_ok c11).1 (zi_ix_ok c11).2 ?_
        refine zv_iincw hB zd276_90 rfl rfl ?_
        refine zv_goto hB zd276_93 rfl ?_
        exact ih _ _ _ _ _ _ _ _ q h hK
  unfold zf_M_laysPatch at h
  refine zv_ald hB zd276_0 rfl rfl rfl ?_
  refine zv_ild hB zd276_1 rfl rfl ?_
  obtain ⟨r1, hr1, h⟩ := zi_bind h
  refine zv_cv hB (zv_emq (va2 := [.inr 0, .inl x1]) (F := [.inl f0]) (F' := [.inl f0]) (G := [g0, g1, g2, g3, g4, g5, g6, g7, g8, g9]) (G' := [g0, g1, r1.2.1, g3, g4, g5, r1.2.2, g7, g8, g9]) (ρ := [0, 1, 2, 3, 4, 5, 6, 7]) (φ := [0]) (ψ := [0, 1, 2, 3, 4, 5, 6]) [some 0] [some 0, some 1, some 2, some 3, some 4, some 5, some 6, none, none, none] zyw_M_seenFrom zyw_M_laysPatch zye_M_laysPatch (by decide +kernel) (zt_M_seenFrom hr1) ⟨⟨_, rfl, fun _ => rfl⟩, trivial⟩ ⟨rfl, rfl, rfl, rfl, rfl, rfl, rfl, trivial⟩ rfl rfl rfl rfl rfl rfl rfl) zd276_2 zxt240 rfl (by decide) (by decide) rfl ?_
  refine zv_ist hB zd276_5 rfl rfl rfl ?_
  refine zv_con hB zd276_6 rfl ?_
  refine zv_ist hB zd276_7 rfl rfl rfl ?_
  refine zv_con hB zd276_8 rfl ?_
  refine zv_ist hB zd276_9 rfl rfl rfl ?_
  obtain ⟨q7, hq7, h⟩ := zi_bind h
  refine l0 _ _ _ _ _ _ _ _ _ _ q7 hq7 ?_
  show good 55 [.inr 0, .inl x1, .inr 1000, .inl q7.1, .inr 1000] [] [.inl f0] [g0, g1, r1.2.1, g3, g4, g5, r1.2.2, q7.2, g8, g9]
  refine zv_ald hB zd276_55 rfl rfl rfl ?_
  refine zv_getr hB zd276_56 rfl ?_
  refine zv_ild hB zd276_59 rfl rfl ?_
  refine zv_ild hB zd276_60 rfl rfl ?_
  obtain ⟨c8, h⟩ := zi_if h
  refine zv_iast hB zd276_61 rfl rfl (zi_ix_ok c8).1 (zi_ix_ok c8).2 ?_
  refine zv_con hB zd276_62 rfl ?_
  refine zv_ist hB zd276_63 rfl rfl rfl ?_
  obtain ⟨q12, hq12, h⟩ := zi_bind h
  refine l1 _ _ _ _ _ _ _ _ _ q12 hq12 ?_
  show good 96 [.inr 1000, .inr 1000, .inr 1000, .inr 1000, .inr 1000] [] [.inl f0] [g0, g1, r1.2.1, g3, g4, g5, r1.2.2, q7.2, (zv_up g8 x1 q7.1), q12]
  have hw := Option.some.inj h
  subst hw
  exact hvret _ _ _ _ zd276_96 trivial ⟨rfl, rfl, rfl⟩
/-! M_laysPatches ()V -/
-- names: 0 StarTalesModel('arg', 0), 1 (0, 422)(0, 12, 0), 2 (0, 14)(0, 12, 21), 3 (0, 13)(0, 12, 26), 4 (0, 14)(0, 12, 23), 5 (0, 14)(0, 12, 24), 6 (0, 220)(0, 12, 20), 7 (0, 220)(0, 12, 25), 8 (0, 24)(0, 12, 44), 9 (0, 288)(0, 12, 43), 10 (0, 6912)(0, 12, 42)
-- fields: f0 = 0.clauses_; arrays: g0 = 1, g1 = 2, g2 = 3, g3 = 4, g4 = 5, g5 = 6, g6 = 7, g7 = 8, g8 = 9, g9 = 10; out: [('g', 2), ('g', 6), ('g', 7), ('g', 8), ('g', 9)]
abbrev zy_M_laysPatches : zNL := (11, [(0, 12)], [(0, 12, 13, 0)], [(0, 12, 0, 1), (0, 12, 21, 2), (0, 12, 26, 3), (0, 12, 23, 4), (0, 12, 24, 5), (0, 12, 20, 6), (0, 12, 25, 7), (0, 12, 44, 8), (0, 12, 43, 9), (0, 12, 42, 10)], [(1, 0, 422, 0), (2, 0, 14, 1), (3, 0, 13, 2), (4, 0, 14, 3), (5, 0, 14, 4), (6, 0, 220, 5), (7, 0, 220, 6), (8, 0, 24, 7), (9, 0, 288, 8), (10, 0, 6912, 9)])
theorem zyw_M_laysPatches : zv_wf zy_M_laysPatches = true := by decide +kernel
theorem zye_M_laysPatches : zv_ek2 zy_M_laysPatches = true := by decide +kernel
def zf_M_laysPatches_l0_b (f0 : Int) (g0 : (Int → Int)) (g1 : (Int → Int)) (g3 : (Int → Int)) (g4 : (Int → Int)) (g5 : (Int → Int)) (rec : Int → (Int → Int) → (Int → Int) → (Int → Int) → (Int → Int) → (Int → Int) → Option ((Int → Int) × (Int → Int) × (Int → Int) × (Int → Int) × (Int → Int))) (x1 : Int) (g2 : (Int → Int)) (g6 : (Int → Int)) (g7 : (Int → Int)) (g8 : (Int → Int)) (g9 : (Int → Int)) : Option ((Int → Int) × (Int → Int) × (Int → Int) × (Int → Int) × (Int → Int)) := if x1 < 288 then ((zf_M_laysPatch x1 f0 g0 g1 g2 g3 g4 g5 g6 g7 g8 g9).bind fun r2 => (rec (zi_w (x1 + 1)) r2.1 r2.2.1 r2.2.2.1 r2.2.2.2.1 r2.2.2.2.2)) else (some (g2, g6, g7, g8, g9))
def zf_M_laysPatches_l0 (f0 : Int) (g0 : (Int → Int)) (g1 : (Int → Int)) (g3 : (Int → Int)) (g4 : (Int → Int)) (g5 : (Int → Int)) : Nat → Int → (Int → Int) → (Int → Int) → (Int → Int) → (Int → Int) → (Int → Int) → Option ((Int → Int) × (Int → Int) × (Int → Int) × (Int → Int) × (Int → Int))
  | 0, _, _, _, _, _, _ => none
  | n + 1, x1, g2, g6, g7, g8, g9 => zf_M_laysPatches_l0_b f0 g0 g1 g3 g4 g5 (zf_M_laysPatches_l0 f0 g0 g1 g3 g4 g5 n) x1 g2 g6 g7 g8 g9
def zf_M_laysPatches (f0 : Int) (g0 : (Int → Int)) (g1 : (Int → Int)) (g2 : (Int → Int)) (g3 : (Int → Int)) (g4 : (Int → Int)) (g5 : (Int → Int)) (g6 : (Int → Int)) (g7 : (Int → Int)) (g8 : (Int → Int)) (g9 : (Int → Int)) : Option ((Int → Int) × (Int → Int) × (Int → Int) × (Int → Int) × (Int → Int)) := (zf_M_laysPatches_l0 f0 g0 g1 g3 g4 g5 zi_fu 0 g2 g6 g7 g8 g9).bind fun q3 => (some (q3.1, q3.2.1, q3.2.2.1, q3.2.2.2.1, q3.2.2.2.2))
theorem zd275_0 : decode zxm275.2.1 0 = .ok (.iconst 0, 1) := by decide +kernel
theorem zd275_1 : decode zxm275.2.1 1 = .ok (.istore_n 1, 1) := by decide +kernel
theorem zd275_2 : decode zxm275.2.1 2 = .ok (.iload_n 1, 1) := by decide +kernel
theorem zd275_3 : decode zxm275.2.1 3 = .ok (.sipush 288, 3) := by decide +kernel
theorem zd275_6 : decode zxm275.2.1 6 = .ok (.if_icmp .ge 14, 3) := by decide +kernel
theorem zd275_9 : decode zxm275.2.1 9 = .ok (.aload_n 0, 1) := by decide +kernel
theorem zd275_10 : decode zxm275.2.1 10 = .ok (.iload_n 1, 1) := by decide +kernel
theorem zd275_11 : decode zxm275.2.1 11 = .ok (.invokevirtual 379, 3) := by decide +kernel
theorem zd275_14 : decode zxm275.2.1 14 = .ok (.iinc 1 1, 3) := by decide +kernel
theorem zd275_17 : decode zxm275.2.1 17 = .ok (.goto (-15), 3) := by decide +kernel
theorem zd275_20 : decode zxm275.2.1 20 = .ok (.return_, 1) := by decide +kernel
theorem zt_M_laysPatches {f0 : Int} {g0 : (Int → Int)} {g1 : (Int → Int)} {g2 : (Int → Int)} {g3 : (Int → Int)} {g4 : (Int → Int)} {g5 : (Int → Int)} {g6 : (Int → Int)} {g7 : (Int → Int)} {g8 : (Int → Int)} {g9 : (Int → Int)} {o : (Int → Int) × (Int → Int) × (Int → Int) × (Int → Int) × (Int → Int)} (h : zf_M_laysPatches f0 g0 g1 g2 g3 g4 g5 g6 g7 g8 g9 = some o) : zv_Fn z_TB z_cl z_KX zy_M_laysPatches zxm275 (6, 360) [.inr 0] [.inl f0] [g0, g1, g2, g3, g4, g5, g6, g7, g8, g9] none [.inl f0] [g0, g1, o.1, g3, g4, g5, o.2.1, o.2.2.1, o.2.2.2.1, o.2.2.2.2] := zv_meth (K := (z_KF13, z_KC13, z_KL13, z_KT13, [], [], [], none)) (FT := z_FT) (MT := z_MT) (n := 1) zxp275 (z_ks13 _ (fun _ h => List.mem_cons_of_mem _ h) _ _ _ _ (fun j r h _ => by cases h)) (fun _ _ => zs_KX_p) zyw_M_laysPatches (fun va F G h => by obtain ⟨rfl, _⟩ := h; rfl) (fun va F G h => by obtain ⟨rfl, _⟩ := h; rfl) rfl fun good va F G hB hret hvret hP => by
  obtain ⟨rfl, rfl, rfl⟩ := hP
  have l0 : ∀ (n : Nat) (x1 : Int) (g2 : (Int → Int)) (g6 : (Int → Int)) (g7 : (Int → Int)) (g8 : (Int → Int)) (g9 : (Int → Int)) (q : (Int → Int) × (Int → Int) × (Int → Int) × (Int → Int) × (Int → Int)), zf_M_laysPatches_l0 f0 g0 g1 g3 g4 g5 n x1 g2 g6 g7 g8 g9 = some q → (good 20 [.inr 1000, .inr 1000] [] [.inl f0] [g0, g1, q.1, g3, g4, g5, q.2.1, q.2.2.1, q.2.2.2.1, q.2.2.2.2]) → good 2 [.inr 0, .inl x1] [] [.inl f0] [g0, g1, g2, g3, g4, g5, g6, g7, g8, g9] := by
    intro n
    induction n with
    | zero => intro x1 g2 g6 g7 g8 g9 q h; exact absurd (show none = some q from h) (fun h => by cases h)
    | succ n ih =>
      intro x1 g2 g6 g7 g8 g9 q h hK
      replace h : zf_M_laysPatches_l0_b f0 g0 g1 g3 g4 g5 (zf_M_laysPatches_l0 f0 g0 g1 g3 g4 g5 n) x1 g2 g6 g7 g8 g9 = some q := h
      unfold zf_M_laysPatches_l0_b at h
      refine zv_ild hB zd275_2 rfl rfl ?_
      refine zv_con hB zd275_3 rfl ?_
      refine zv_cge hB zd275_6 rfl (fun hc1 => ?_) (fun hc1 => ?_)
      · rw [if_neg (Int.not_lt.mpr hc1)] at h
        have hq := Option.some.inj h
        subst hq
        refine zv_wk hB (L' := [.inr 1000, .inr 1000]) (F' := [.inl f0]) ⟨fun (h : zv_is (.inr 1000)) => (Nat.lt_irrefl 1000 h).elim, fun (h : zv_is (.inr 1000)) => (Nat.lt_irrefl 1000 h).elim, trivial⟩ ⟨fun _ => rfl, trivial⟩ ?_
        exact hK
      · rw [if_pos hc1] at h
        refine zv_ald hB zd275_9 rfl rfl rfl ?_
        refine zv_ild hB zd275_10 rfl rfl ?_
        obtain ⟨r2, hr2, h⟩ := zi_bind h
        refine zv_cv hB (zv_emq (va2 := [.inr 0, .inl x1]) (F := [.inl f0]) (F' := [.inl f0]) (G := [g0, g1, g2, g3, g4, g5, g6, g7, g8, g9]) (G' := [g0, g1, r2.1, g3, g4, g5, r2.2.1, r2.2.2.1, r2.2.2.2.1, r2.2.2.2.2]) (ρ := [0, 1, 2, 3, 4, 5, 6, 7, 8, 9, 10]) (φ := [0]) (ψ := [0, 1, 2, 3, 4, 5, 6, 7, 8, 9]) [some 0] [some 0, some 1, some 2, some 3, some 4, some 5, some 6, some 7, some 8, some 9] zyw_M_laysPatch zyw_M_laysPatches zye_M_laysPatches (by decide +kernel) (zt_M_laysPatch hr2) ⟨⟨_, rfl, fun _ => rfl⟩, trivial⟩ ⟨rfl, rfl, rfl, rfl, rfl, rfl, rfl, rfl, rfl, rfl, trivial⟩ rfl rfl rfl rfl rfl rfl rfl) zd275_11 zxt276 rfl (by decide) (by decide) rfl ?_
        refine zv_iincw hB zd275_14 rfl rfl ?_
        refine zv_goto hB zd275_17 rfl ?_
        exact ih _ _ _ _ _ _ q h hK
  unfold zf_M_laysPatches at h
  refine zv_con hB zd275_0 rfl ?_
  refine zv_ist hB zd275_1 rfl rfl rfl ?_
  obtain ⟨q3, hq3, h⟩ := zi_bind h
  refine l0 _ _ _ _ _ _ _ q3 hq3 ?_
  show good 20 [.inr 1000, .inr 1000] [] [.inl f0] [g0, g1, q3.1, g3, g4, g5, q3.2.1, q3.2.2.1, q3.2.2.2.1, q3.2.2.2.2]
  have hw := Option.some.inj h
  subst hw
  exact hvret _ _ _ _ zd275_20 trivial ⟨rfl, rfl, rfl⟩
/-! M_areAlike (II)Z -/
-- names: 0 StarTalesModel('arg', 0), 1 (0, 288)(0, 12, 43), 2 (0, 6912)(0, 12, 42)
-- fields: ; arrays: g0 = 1, g1 = 2; out: [('ret', None)]
abbrev zy_M_areAlike : zNL := (3, [(0, 12)], [], [(0, 12, 43, 1), (0, 12, 42, 2)], [(1, 0, 288, 0), (2, 0, 6912, 1)])
theorem zyw_M_areAlike : zv_wf zy_M_areAlike = true := by decide +kernel
theorem zye_M_areAlike : zv_ek2 zy_M_areAlike = true := by decide +kernel
def zf_M_areAlike_l0_b (x1 : Int) (x2 : Int) (g0 : (Int → Int)) (g1 : (Int → Int)) (rec : Int → Option (((Unit) ⊕ (Int)))) (x3 : Int) : Option (((Unit) ⊕ (Int))) := cond (zi_ix x1 288) (if x3 < (g0 x1) then (cond (zi_ix (zi_w ((zi_w (24 * x1)) + x3)) 6912) (cond (zi_ix (zi_w ((zi_w (24 * x2)) + x3)) 6912) (if (g1 (zi_w ((zi_w (24 * x1)) + x3))) = (g1 (zi_w ((zi_w (24 * x2)) + x3))) then (rec (zi_w (x3 + 1))) else (some (.inr 0))) none) none) else (some (.inl ()))) none
def zf_M_areAlike_l0 (x1 : Int) (x2 : Int) (g0 : (Int → Int)) (g1 : (Int → Int)) : Nat → Int → Option (((Unit) ⊕ (Int)))
  | 0, _ => none
  | n + 1, x3 => zf_M_areAlike_l0_b x1 x2 g0 g1 (zf_M_areAlike_l0 x1 x2 g0 g1 n) x3
def zf_M_areAlike (x1 : Int) (x2 : Int) (g0 : (Int → Int)) (g1 : (Int → Int)) : Option (Int) := cond (zi_ix x1 288) (cond (zi_ix x2 288) (if (g0 x1) = (g0 x2) then ((zf_M_areAlike_l0 x1 x2 g0 g1 zi_fu 0).bind fun q9 => Sum.elim (fun e10 => (some 1)) (fun w11 => some w11) q9) else (some 0)) none) none
theorem zd280_0 : decode zxm280.2.1 0 = .ok (.aload_n 0, 1) := by decide +kernel
theorem zd280_1 : decode zxm280.2.1 1 = .ok (.getfield 89, 3) := by decide +kernel
theorem zd280_4 : decode zxm280.2.1 4 = .ok (.iload_n 1, 1) := by decide +kernel
theorem zd280_5 : decode zxm280.2.1 5 = .ok (.iaload, 1) := by decide +kernel
theorem zd280_6 : decode zxm280.2.1 6 = .ok (.aload_n 0, 1) := by decide +kernel
theorem zd280_7 : decode zxm280.2.1 7 = .ok (.getfield 89, 3) := by decide +kernel
theorem zd280_10 : decode zxm280.2.1 10 = .ok (.iload_n 2, 1) := by decide +kernel
theorem zd280_11 : decode zxm280.2.1 11 = .ok (.iaload, 1) := by decide +kernel
theorem zd280_12 : decode zxm280.2.1 12 = .ok (.if_icmp .eq 5, 3) := by decide +kernel
theorem zd280_15 : decode zxm280.2.1 15 = .ok (.iconst 0, 1) := by decide +kernel
theorem zd280_16 : decode zxm280.2.1 16 = .ok (.ireturn, 1) := by decide +kernel
theorem zd280_17 : decode zxm280.2.1 17 = .ok (.iconst 0, 1) := by decide +kernel
theorem zd280_18 : decode zxm280.2.1 18 = .ok (.istore_n 3, 1) := by decide +kernel
theorem zd280_19 : decode zxm280.2.1 19 = .ok (.iload_n 3, 1) := by decide +kernel
theorem zd280_20 : decode zxm280.2.1 20 = .ok (.aload_n 0, 1) := by decide +kernel
theorem zd280_21 : decode zxm280.2.1 21 = .ok (.getfield 89, 3) := by decide +kernel
theorem zd280_24 : decode zxm280.2.1 24 = .ok (.iload_n 1, 1) := by decide +kernel
theorem zd280_25 : decode zxm280.2.1 25 = .ok (.iaload, 1) := by decide +kernel
theorem zd280_26 : decode zxm280.2.1 26 = .ok (.if_icmp .ge 36, 3) := by decide +kernel
theorem zd280_29 : decode zxm280.2.1 29 = .ok (.aload_n 0, 1) := by decide +kernel
theorem zd280_30 : decode zxm280.2.1 30 = .ok (.getfield 86, 3) := by decide +kernel
theorem zd280_33 : decode zxm280.2.1 33 = .ok (.bipush 24, 2) := by decide +kernel
theorem zd280_35 : decode zxm280.2.1 35 = .ok (.iload_n 1, 1) := by decide +kernel
theorem zd280_36 : decode zxm280.2.1 36 = .ok (.imul, 1) := by decide +kernel
theorem zd280_37 : decode zxm280.2.1 37 = .ok (.iload_n 3, 1) := by decide +kernel
theorem zd280_38 : decode zxm280.2.1 38 = .ok (.iadd, 1) := by decide +kernel
theorem zd280_39 : decode zxm280.2.1 39 = .ok (.iaload, 1) := by decide +kernel
theorem zd280_40 : decode zxm280.2.1 40 = .ok (.aload_n 0, 1) := by decide +kernel
theorem zd280_41 : decode zxm280.2.1 41 = .ok (.getfield 86, 3) := by decide +kernel
theorem zd280_44 : decode zxm280.2.1 44 = .ok (.bipush 24, 2) := by decide +kernel
theorem zd280_46 : decode zxm280.2.1 46 = .ok (.iload_n 2, 1) := by decide +kernel
theorem zd280_47 : decode zxm280.2.1 47 = .ok (.imul, 1) := by decide +kernel
theorem zd280_48 : decode zxm280.2.1 48 = .ok (.iload_n 3, 1) := by decide +kernel
theorem zd280_49 : decode zxm280.2.1 49 = .ok (.iadd, 1) := by decide +kernel
theorem zd280_50 : decode zxm280.2.1 50 = .ok (.iaload, 1) := by decide +kernel
theorem zd280_51 : decode zxm280.2.1 51 = .ok (.if_icmp .eq 5, 3) := by decide +kernel
theorem zd280_54 : decode zxm280.2.1 54 = .ok (.iconst 0, 1) := by decide +kernel
theorem zd280_55 : decode zxm280.2.1 55 = .ok (.ireturn, 1) := by decide +kernel
theorem zd280_56 : decode zxm280.2.1 56 = .ok (.iinc 3 1, 3) := by decide +kernel
theorem zd280_59 : decode zxm280.2.1 59 = .ok (.goto (-40), 3) := by decide +kernel
theorem zd280_62 : decode zxm280.2.1 62 = .ok (.iconst 1, 1) := by decide +kernel
theorem zd280_63 : decode zxm280.2.1 63 = .ok (.ireturn, 1) := by decide +kernel
theorem zt_M_areAlike {x1 : Int} {x2 : Int} {g0 : (Int → Int)} {g1 : (Int → Int)} {o : Int} (h : zf_M_areAlike x1 x2 g0 g1 = some o) : zv_Fn z_TB z_cl z_KX zy_M_areAlike zxm280 (0, 0) [.inr 0, .inl x1, .inl x2] [] [g0, g1] (some o) [] [g0, g1] := zv_meth (K := (z_KF13, z_KC13, z_KL13, z_KT13, [], [], [], none)) (FT := z_FT) (MT := z_MT) (n := 3) zxp280 (z_ks13 _ (fun _ h => List.mem_cons_of_mem _ h) _ _ _ _ (fun j r h _ => by cases h)) (fun _ _ => zs_KX_p) zyw_M_areAlike (fun va F G h => by obtain ⟨rfl, _⟩ := h; rfl) (fun va F G h => by obtain ⟨rfl, _⟩ := h; rfl) rfl fun good va F G hB hret hvret hP => by
  obtain ⟨rfl, rfl, rfl⟩ := hP
  have l0 : ∀ (n : Nat) (x1 : Int) (x2 : Int) (x3 : Int) (q : ((Unit) ⊕ (Int))), zf_M_areAlike_l0 x1 x2 g0 g1 n x3 = some q → (Sum.elim (fun e : Unit => good 62 [.inr 1000, .inr 1000, .inr 1000, .inr 1000] [] [] [g0, g1]) (fun w : Int => w = o) q) → good 19 [.inr 0, .inl x1, .inl x2, .inl x3] [] [] [g0, g1] := by
    intro n
    induction n with
    | zero => intro x1 x2 x3 q h; exact absurd (show none = some q from h) (fun h => by cases h)
    | succ n ih =>
      intro x1 x2 x3 q h hK
      replace h : zf_M_areAlike_l0_b x1 x2 g0 g1 (zf_M_areAlike_l0 x1 x2 g0 g1 n) x3 = some q := h
      unfold zf_M_areAlike_l0_b at h
      refine zv_ild hB zd280_19 rfl rfl ?_
      refine zv_ald hB zd280_20 rfl rfl rfl ?_
      refine zv_getr hB zd280_21 rfl ?_
      refine zv_ild hB zd280_24 rfl rfl ?_
      obtain ⟨c4, h⟩ := zi_if h
      refine zv_iald hB zd280_25 rfl rfl (zi_ix_ok c4).1 (zi_ix_ok c4).2 (fun _ _ => ?_)
      refine zv_cge hB zd280_26 rfl (fun hc5 => ?_) (fun hc5 => ?_)
      · rw [if_neg (Int.not_lt.mpr hc5)] at h
        have hq := Option.some.inj h
        subst hq
        refine zv_wk hB (L' := [.inr 1000, .inr 1000, .inr 1000, .inr 1000]) (F' := []) ⟨fun (h : zv_is (.inr 1000)) => (Nat.lt_irrefl 1000 h).elim, fun (h : zv_is (.inr 1000)) => (Nat.lt_irrefl 1000 h).elim, fun (h : zv_is (.inr 1000)) => (Nat.lt_irrefl 1000 h).elim, fun (h : zv_is (.inr 1000)) => (Nat.lt_irrefl 1000 h).elim, trivial⟩ trivial ?_
        exact hK
      · rw [if_pos hc5] at h
        refine zv_ald hB zd280_29 rfl rfl rfl ?_
        refine zv_getr hB zd280_30 rfl ?_
        refine zv_con hB zd280_33 rfl ?_
        refine zv_ild hB zd280_35 rfl rfl ?_
        refine zv_mulw hB zd280_36 ?_
        refine zv_ild hB zd280_37 rfl rfl ?_
        refine zv_addw hB zd280_38 ?_
        obtain ⟨c6, h⟩ := zi_if h
        refine zv_iald hB zd280_39 rfl rfl (zi_ix_ok c6).1 (zi_ix_ok c6).2 (fun _ _ => ?_)
        refine zv_ald hB zd280_40 rfl rfl rfl ?_
        refine zv_getr hB zd280_41 rfl ?_
        refine zv_con hB zd280_44 rfl ?_
        refine zv_ild hB zd280_46 rfl rfl ?_
        refine zv_mulw hB zd280_47 ?_
        refine zv_ild hB zd280_48 rfl rfl ?_
        refine zv_addw hB zd280_49 ?_
        obtain ⟨c7, h⟩ := zi_if h
        refine zv_iald hB zd280_50 rfl rfl (zi_ix_ok c7).1 (zi_ix_ok c7).2 (fun _ _ => ?_)
        refine zv_ceq hB zd280_51 rfl (fun hc8 => ?_) (fun hc8 => ?_)
        · rw [if_pos hc8] at h
          refine zv_iincw hB zd280_56 rfl rfl ?_
          refine zv_goto hB zd280_59 rfl ?_
          exact ih _ _ _ q h hK
        · rw [if_neg hc8] at h
          refine zv_con hB zd280_54 rfl ?_
          have hw : 0 = o := zi_rk (Option.some.inj h) hK
          subst hw
          exact hret _ _ _ _ _ zd280_55 (by constructor <;> decide) ⟨rfl, rfl, rfl⟩
  unfold zf_M_areAlike at h
  refine zv_ald hB zd280_0 rfl rfl rfl ?_
  refine zv_getr hB zd280_1 rfl ?_
  refine zv_ild hB zd280_4 rfl rfl ?_
  obtain ⟨c1, h⟩ := zi_if h
  refine zv_iald hB zd280_5 rfl rfl (zi_ix_ok c1).1 (zi_ix_ok c1).2 (fun _ _ => ?_)
  refine zv_ald hB zd280_6 rfl rfl rfl ?_
  refine zv_getr hB zd280_7 rfl ?_
  refine zv_ild hB zd280_10 rfl rfl ?_
  obtain ⟨c2, h⟩ := zi_if h
  refine zv_iald hB zd280_11 rfl rfl (zi_ix_ok c2).1 (zi_ix_ok c2).2 (fun _ _ => ?_)
  refine zv_ceq hB zd280_12 rfl (fun hc3 => ?_) (fun hc3 => ?_)
  · rw [if_pos hc3] at h
    refine zv_con hB zd280_17 rfl ?_
    refine zv_ist hB zd280_18 rfl rfl rfl ?_
    obtain ⟨q9, hq9, h⟩ := zi_bind h
    refine l0 _ _ _ _ q9 hq9 ?_
    rcases q9 with e10 | w11
    · replace h := zi_sl h
      show good 62 [.inr 1000, .inr 1000, .inr 1000, .inr 1000] [] [] [g0, g1]
      refine zv_con hB zd280_62 rfl ?_
      have hw := Option.some.inj h
      subst hw
      exact hret _ _ _ _ _ zd280_63 (by constructor <;> decide) ⟨rfl, rfl, rfl⟩
    · exact Option.some.inj h
  · rw [if_neg hc3] at h
    refine zv_con hB zd280_15 rfl ?_
    have hw := Option.some.inj h
    subst hw
    exact hret _ _ _ _ _ zd280_16 (by constructor <;> decide) ⟨rfl, rfl, rfl⟩
/-! M_alikeFrom (II)I -/
-- names: 0 StarTalesModel('arg', 0), 1 (0, 288)(0, 12, 43), 2 (0, 6912)(0, 12, 42)
-- fields: ; arrays: g0 = 1, g1 = 2; out: [('ret', None)]
abbrev zy_M_alikeFrom : zNL := (3, [(0, 12)], [], [(0, 12, 43, 1), (0, 12, 42, 2)], [(1, 0, 288, 0), (2, 0, 6912, 1)])
theorem zyw_M_alikeFrom : zv_wf zy_M_alikeFrom = true := by decide +kernel
theorem zye_M_alikeFrom : zv_ek2 zy_M_alikeFrom = true := by decide +kernel
def zf_M_alikeFrom_l0_b (x1 : Int) (g0 : (Int → Int)) (g1 : (Int → Int)) (rec : Int → Option (((Unit) ⊕ (Int)))) (x3 : Int) : Option (((Unit) ⊕ (Int))) := if x3 < 288 then (if x3 = x1 then (rec (zi_w (x3 + 1))) else ((zf_M_areAlike x1 x3 g0 g1).bind fun r3 => (if r3 = 0 then (rec (zi_w (x3 + 1))) else (some (.inr x3))))) else (some (.inl ()))
def zf_M_alikeFrom_l0 (x1 : Int) (g0 : (Int → Int)) (g1 : (Int → Int)) : Nat → Int → Option (((Unit) ⊕ (Int)))
  | 0, _ => none
  | n + 1, x3 => zf_M_alikeFrom_l0_b x1 g0 g1 (zf_M_alikeFrom_l0 x1 g0 g1 n) x3
def zf_M_alikeFrom (x1 : Int) (x2 : Int) (g0 : (Int → Int)) (g1 : (Int → Int)) : Option (Int) := (zf_M_alikeFrom_l0 x1 g0 g1 zi_fu x2).bind fun q5 => Sum.elim (fun e6 => (some (-1))) (fun w7 => some w7) q5
theorem zd279_0 : decode zxm279.2.1 0 = .ok (.iload_n 2, 1) := by decide +kernel
theorem zd279_1 : decode zxm279.2.1 1 = .ok (.istore_n 3, 1) := by decide +kernel
theorem zd279_2 : decode zxm279.2.1 2 = .ok (.iload_n 3, 1) := by decide +kernel
theorem zd279_3 : decode zxm279.2.1 3 = .ok (.sipush 288, 3) := by decide +kernel
theorem zd279_6 : decode zxm279.2.1 6 = .ok (.if_icmp .ge 25, 3) := by decide +kernel
theorem zd279_9 : decode zxm279.2.1 9 = .ok (.iload_n 3, 1) := by decide +kernel
theorem zd279_10 : decode zxm279.2.1 10 = .ok (.iload_n 1, 1) := by decide +kernel
theorem zd279_11 : decode zxm279.2.1 11 = .ok (.if_icmp .eq 14, 3) := by decide +kernel
theorem zd279_14 : decode zxm279.2.1 14 = .ok (.aload_n 0, 1) := by decide +kernel
theorem zd279_15 : decode zxm279.2.1 15 = .ok (.iload_n 1, 1) := by decide +kernel
theorem zd279_16 : decode zxm279.2.1 16 = .ok (.iload_n 3, 1) := by decide +kernel
theorem zd279_17 : decode zxm279.2.1 17 = .ok (.invokevirtual 382, 3) := by decide +kernel
theorem zd279_20 : decode zxm279.2.1 20 = .ok (.ifCond .eq 5, 3) := by decide +kernel
theorem zd279_23 : decode zxm279.2.1 23 = .ok (.iload_n 3, 1) := by decide +kernel
theorem zd279_24 : decode zxm279.2.1 24 = .ok (.ireturn, 1) := by decide +kernel
theorem zd279_25 : decode zxm279.2.1 25 = .ok (.iinc 3 1, 3) := by decide +kernel
theorem zd279_28 : decode zxm279.2.1 28 = .ok (.goto (-26), 3) := by decide +kernel
theorem zd279_31 : decode zxm279.2.1 31 = .ok (.iconst (-1), 1) := by decide +kernel
theorem zd279_32 : decode zxm279.2.1 32 = .ok (.ireturn, 1) := by decide +kernel
theorem zt_M_alikeFrom {x1 : Int} {x2 : Int} {g0 : (Int → Int)} {g1 : (Int → Int)} {o : Int} (h : zf_M_alikeFrom x1 x2 g0 g1 = some o) : zv_Fn z_TB z_cl z_KX zy_M_alikeFrom zxm279 (1, 60) [.inr 0, .inl x1, .inl x2] [] [g0, g1] (some o) [] [g0, g1] := zv_meth (K := (z_KF13, z_KC13, z_KL13, z_KT13, [], [], [], none)) (FT := z_FT) (MT := z_MT) (n := 3) zxp279 (z_ks13 _ (fun _ h => List.mem_cons_of_mem _ h) _ _ _ _ (fun j r h _ => by cases h)) (fun _ _ => zs_KX_p) zyw_M_alikeFrom (fun va F G h => by obtain ⟨rfl, _⟩ := h; rfl) (fun va F G h => by obtain ⟨rfl, _⟩ := h; rfl) rfl fun good va F G hB hret hvret hP => by
  obtain ⟨rfl, rfl, rfl⟩ := hP
  have l0 : ∀ (n : Nat) (x1 : Int) (x3 : Int) (q : ((Unit) ⊕ (Int))), zf_M_alikeFrom_l0 x1 g0 g1 n x3 = some q → (Sum.elim (fun e : Unit => good 31 [.inr 1000, .inr 1000, .inr 1000, .inr 1000] [] [] [g0, g1]) (fun w : Int => w = o) q) → good 2 [.inr 0, .inl x1, .inr 1000, .inl x3] [] [] [g0, g1] := by
    intro n
    induction n with
    | zero => intro x1 x3 q h; exact absurd (show none = some q from h) (fun h => by cases h)
    | succ n ih =>
      intro x1 x3 q h hK
      replace h : zf_M_alikeFrom_l0_b x1 g0 g1 (zf_M_alikeFrom_l0 x1 g0 g1 n) x3 = some q := h
      unfold zf_M_alikeFrom_l0_b at h
      refine zv_ild hB zd279_2 rfl rfl ?_
      refine zv_con hB zd279_3 rfl ?_
      refine zv_cge hB zd279_6 rfl (fun hc1 => ?_) (fun hc1 => ?_)
      · rw [if_neg (Int.not_lt.mpr hc1)] at h
        have hq := Option.some.inj h
        subst hq
        refine zv_wk hB (L' := [.inr 1000, .inr 1000, .inr 1000, .inr 1000]) (F' := []) ⟨fun (h : zv_is (.inr 1000)) => (Nat.lt_irrefl 1000 h).elim, fun (h : zv_is (.inr 1000)) => (Nat.lt_irrefl 1000 h).elim, fun (h : zv_is (.inr 1000)) => (Nat.lt_irrefl 1000 h).elim, fun (h : zv_is (.inr 1000)) => (Nat.lt_irrefl 1000 h).elim, trivial⟩ trivial ?_
        exact hK
      · rw [if_pos hc1] at h
        refine zv_ild hB zd279_9 rfl rfl ?_
        refine zv_ild hB zd279_10 rfl rfl ?_
        refine zv_ceq hB zd279_11 rfl (fun hc2 => ?_) (fun hc2 => ?_)
        · rw [if_pos hc2] at h
          refine zv_iincw hB zd279_25 rfl rfl ?_
          refine zv_goto hB zd279_28 rfl ?_
          exact ih _ _ q h hK
        · rw [if_neg hc2] at h
          refine zv_ald hB zd279_14 rfl rfl rfl ?_
          refine zv_ild hB zd279_15 rfl rfl ?_
          refine zv_ild hB zd279_16 rfl rfl ?_
          obtain ⟨r3, hr3, h⟩ := zi_bind h
          refine zv_cv hB (zv_emq (va2 := [.inr 0, .inl x1, .inl x3]) (F := []) (F' := []) (G := [g0, g1]) (G' := [g0, g1]) (ρ := [0, 1, 2]) (φ := []) (ψ := [0, 1]) [] [some 0, some 1] zyw_M_areAlike zyw_M_alikeFrom zye_M_alikeFrom (by decide +kernel) (zt_M_areAlike hr3) trivial ⟨rfl, rfl, trivial⟩ rfl rfl rfl rfl rfl rfl rfl) zd279_17 zxt280 rfl (by decide) (by decide) rfl ?_
          refine zv_zeq hB zd279_20 rfl (fun hc4 => ?_) (fun hc4 => ?_)
          · rw [if_pos hc4] at h
            refine zv_iincw hB zd279_25 rfl rfl ?_
            refine zv_goto hB zd279_28 rfl ?_
            exact ih _ _ q h hK
          · rw [if_neg hc4] at h
            refine zv_ild hB zd279_23 rfl rfl ?_
            have hw : x3 = o := zi_rk (Option.some.inj h) hK
            subst hw
            exact hret _ _ _ _ _ zd279_24 (by trivial) ⟨rfl, rfl, rfl⟩
  unfold zf_M_alikeFrom at h
  refine zv_ild hB zd279_0 rfl rfl ?_
  refine zv_ist hB zd279_1 rfl rfl rfl ?_
  obtain ⟨q5, hq5, h⟩ := zi_bind h
  refine zv_wk hB (L' := [.inr 0, .inl x1, .inr 1000, .inl x2]) (F' := []) ⟨fun _ => rfl, fun _ => rfl, fun (h : zv_is (.inr 1000)) => (Nat.lt_irrefl 1000 h).elim, fun _ => rfl, trivial⟩ trivial ?_
  refine l0 _ _ _ q5 hq5 ?_
  rcases q5 with e6 | w7
  · replace h := zi_sl h
    show good 31 [.inr 1000, .inr 1000, .inr 1000, .inr 1000] [] [] [g0, g1]
    refine zv_con hB zd279_31 rfl ?_
    have hw := Option.some.inj h
    subst hw
    exact hret _ _ _ _ _ zd279_32 (by trivial) ⟨rfl, rfl, rfl⟩
  · exact Option.some.inj h
/-! M_alike (I)I -/
-- names: 0 StarTalesModel('arg', 0), 1 (0, 422)(0, 12, 0), 2 (0, 14)(0, 12, 21), 3 (0, 13)(0, 12, 26), 4 (0, 14)(0, 12, 23), 5 (0, 14)(0, 12, 24), 6 (0, 220)(0, 12, 20), 7 (0, 220)(0, 12, 25), 8 (0, 24)(0, 12, 44), 9 (0, 288)(0, 12, 43), 10 (0, 6912)(0, 12, 42)
-- fields: f0 = 0.clauses_; arrays: g0 = 1, g1 = 2, g2 = 3, g3 = 4, g4 = 5, g5 = 6, g6 = 7, g7 = 8, g8 = 9, g9 = 10; out: [('ret', None), ('g', 2), ('g', 6), ('g', 7), ('g', 8), ('g', 9)]
abbrev zy_M_alike : zNL := (11, [(0, 12)], [(0, 12, 13, 0)], [(0, 12, 0, 1), (0, 12, 21, 2), (0, 12, 26, 3), (0, 12, 23, 4), (0, 12, 24, 5), (0, 12, 20, 6), (0, 12, 25, 7), (0, 12, 44, 8), (0, 12, 43, 9), (0, 12, 42, 10)], [(1, 0, 422, 0), (2, 0, 14, 1), (3, 0, 13, 2), (4, 0, 14, 3), (5, 0, 14, 4), (6, 0, 220, 5), (7, 0, 220, 6), (8, 0, 24, 7), (9, 0, 288, 8), (10, 0, 6912, 9)])
theorem zyw_M_alike : zv_wf zy_M_alike = true := by decide +kernel
theorem zye_M_alike : zv_ek2 zy_M_alike = true := by decide +kernel
def zf_M_alike_l0_b (g8 : (Int → Int)) (g9 : (Int → Int)) (rec : Int → Int → Int → Option (Int × Int)) (x2 : Int) (x3 : Int) (x4 : Int) : Option (Int × Int) := if x4 < 288 then (cond (zi_ix x4 288) (if (g8 x4) = 0 then (rec x2 x3 (zi_w (x4 + 1))) else ((zf_M_alikeFrom x4 0 g8 g9).bind fun r7 => (if r7 = (-1) then (rec x2 x3 (zi_w (x4 + 1))) else (if x3 = (-1) then (rec (zi_w (x2 + 1)) x4 (zi_w (x4 + 1))) else (rec (zi_w (x2 + 1)) x3 (zi_w (x4 + 1))))))) none) else (some (x2, x3))
def zf_M_alike_l0 (g8 : (Int → Int)) (g9 : (Int → Int)) : Nat → Int → Int → Int → Option (Int × Int)
  | 0, _, _, _ => none
  | n + 1, x2, x3, x4 => zf_M_alike_l0_b g8 g9 (zf_M_alike_l0 g8 g9 n) x2 x3 x4
def zf_M_alike (x1 : Int) (f0 : Int) (g0 : (Int → Int)) (g1 : (Int → Int)) (g2 : (Int → Int)) (g3 : (Int → Int)) (g4 : (Int → Int)) (g5 : (Int → Int)) (g6 : (Int → Int)) (g7 : (Int → Int)) (g8 : (Int → Int)) (g9 : (Int → Int)) : Option (Int × (Int → Int) × (Int → Int) × (Int → Int) × (Int → Int) × (Int → Int)) := (zf_M_in x1 0 2).bind fun r1 => (if r1 = 0 then (some ((-1), g2, g6, g7, g8, g9)) else ((zf_M_laysPatches f0 g0 g1 g2 g3 g4 g5 g6 g7 g8 g9).bind fun r3 => ((zf_M_alike_l0 r3.2.2.2.1 r3.2.2.2.2 zi_fu 0 (-1) 0).bind fun q10 => (if x1 = 0 then (some (q10.1, r3.1, r3.2.1, r3.2.2.1, r3.2.2.2.1, r3.2.2.2.2)) else (if q10.2 = (-1) then (some ((-2), r3.1, r3.2.1, r3.2.2.1, r3.2.2.2.1, r3.2.2.2.2)) else (if x1 = 1 then (some (q10.2, r3.1, r3.2.1, r3.2.2.1, r3.2.2.2.1, r3.2.2.2.2)) else ((zf_M_alikeFrom q10.2 (zi_w (q10.2 + 1)) r3.2.2.2.1 r3.2.2.2.2).bind fun r14 => (some (r14, r3.1, r3.2.1, r3.2.2.1, r3.2.2.2.1, r3.2.2.2.2)))))))))
theorem zd274_0 : decode zxm274.2.1 0 = .ok (.iload_n 1, 1) := by decide +kernel
theorem zd274_1 : decode zxm274.2.1 1 = .ok (.iconst 0, 1) := by decide +kernel
theorem zd274_2 : decode zxm274.2.1 2 = .ok (.iconst 2, 1) := by decide +kernel
theorem zd274_3 : decode zxm274.2.1 3 = .ok (.invokestatic 150, 3) := by decide +kernel
theorem zd274_6 : decode zxm274.2.1 6 = .ok (.ifCond .ne 5, 3) := by decide +kernel
theorem zd274_9 : decode zxm274.2.1 9 = .ok (.iconst (-1), 1) := by decide +kernel
theorem zd274_10 : decode zxm274.2.1 10 = .ok (.ireturn, 1) := by decide +kernel
theorem zd274_11 : decode zxm274.2.1 11 = .ok (.aload_n 0, 1) := by decide +kernel
theorem zd274_12 : decode zxm274.2.1 12 = .ok (.invokevirtual 385, 3) := by decide +kernel
theorem zd274_15 : decode zxm274.2.1 15 = .ok (.iconst 0, 1) := by decide +kernel
theorem zd274_16 : decode zxm274.2.1 16 = .ok (.istore_n 2, 1) := by decide +kernel
theorem zd274_17 : decode zxm274.2.1 17 = .ok (.iconst (-1), 1) := by decide +kernel
theorem zd274_18 : decode zxm274.2.1 18 = .ok (.istore_n 3, 1) := by decide +kernel
theorem zd274_19 : decode zxm274.2.1 19 = .ok (.iconst 0, 1) := by decide +kernel
theorem zd274_20 : decode zxm274.2.1 20 = .ok (.istore 4, 2) := by decide +kernel
theorem zd274_22 : decode zxm274.2.1 22 = .ok (.iload 4, 2) := by decide +kernel
theorem zd274_24 : decode zxm274.2.1 24 = .ok (.sipush 288, 3) := by decide +kernel
theorem zd274_27 : decode zxm274.2.1 27 = .ok (.if_icmp .ge 49, 3) := by decide +kernel
theorem zd274_30 : decode zxm274.2.1 30 = .ok (.aload_n 0, 1) := by decide +kernel
theorem zd274_31 : decode zxm274.2.1 31 = .ok (.getfield 89, 3) := by decide +kernel
theorem zd274_34 : decode zxm274.2.1 34 = .ok (.iload 4, 2) := by decide +kernel
theorem zd274_36 : decode zxm274.2.1 36 = .ok (.iaload, 1) := by decide +kernel
theorem zd274_37 : decode zxm274.2.1 37 = .ok (.ifCond .eq 33, 3) := by decide +kernel
theorem zd274_40 : decode zxm274.2.1 40 = .ok (.aload_n 0, 1) := by decide +kernel
theorem zd274_41 : decode zxm274.2.1 41 = .ok (.iload 4, 2) := by decide +kernel
theorem zd274_43 : decode zxm274.2.1 43 = .ok (.iconst 0, 1) := by decide +kernel
theorem zd274_44 : decode zxm274.2.1 44 = .ok (.invokevirtual 388, 3) := by decide +kernel
theorem zd274_47 : decode zxm274.2.1 47 = .ok (.iconst (-1), 1) := by decide +kernel
theorem zd274_48 : decode zxm274.2.1 48 = .ok (.if_icmp .ne 6, 3) := by decide +kernel
theorem zd274_51 : decode zxm274.2.1 51 = .ok (.goto 19, 3) := by decide +kernel
theorem zd274_54 : decode zxm274.2.1 54 = .ok (.iload_n 3, 1) := by decide +kernel
theorem zd274_55 : decode zxm274.2.1 55 = .ok (.iconst (-1), 1) := by decide +kernel
theorem zd274_56 : decode zxm274.2.1 56 = .ok (.if_icmp .ne 8, 3) := by decide +kernel
theorem zd274_59 : decode zxm274.2.1 59 = .ok (.iload 4, 2) := by decide +kernel
theorem zd274_61 : decode zxm274.2.1 61 = .ok (.goto 4, 3) := by decide +kernel
theorem zd274_64 : decode zxm274.2.1 64 = .ok (.iload_n 3, 1) := by decide +kernel
theorem zd274_65 : decode zxm274.2.1 65 = .ok (.istore_n 3, 1) := by decide +kernel
theorem zd274_66 : decode zxm274.2.1 66 = .ok (.iload_n 2, 1) := by decide +kernel
theorem zd274_67 : decode zxm274.2.1 67 = .ok (.iconst 1, 1) := by decide +kernel
theorem zd274_68 : decode zxm274.2.1 68 = .ok (.iadd, 1) := by decide +kernel
theorem zd274_69 : decode zxm274.2.1 69 = .ok (.istore_n 2, 1) := by decide +kernel
theorem zd274_70 : decode zxm274.2.1 70 = .ok (.iinc 4 1, 3) := by decide +kernel
theorem zd274_73 : decode zxm274.2.1 73 = .ok (.goto (-51), 3) := by decide +kernel
theorem zd274_76 : decode zxm274.2.1 76 = .ok (.iload_n 1, 1) := by decide +kernel
theorem zd274_77 : decode zxm274.2.1 77 = .ok (.ifCond .ne 5, 3) := by decide +kernel
theorem zd274_80 : decode zxm274.2.1 80 = .ok (.iload_n 2, 1) := by decide +kernel
theorem zd274_81 : decode zxm274.2.1 81 = .ok (.ireturn, 1) := by decide +kernel
theorem zd274_82 : decode zxm274.2.1 82 = .ok (.iload_n 3, 1) := by decide +kernel
theorem zd274_83 : decode zxm274.2.1 83 = .ok (.iconst (-1), 1) := by decide +kernel
theorem zd274_84 : decode zxm274.2.1 84 = .ok (.if_icmp .ne 8, 3) := by decide +kernel
theorem zd274_87 : decode zxm274.2.1 87 = .ok (.bipush (-2), 2) := by decide +kernel
theorem zd274_89 : decode zxm274.2.1 89 = .ok (.goto 20, 3) := by decide +kernel
theorem zd274_92 : decode zxm274.2.1 92 = .ok (.iload_n 1, 1) := by decide +kernel
theorem zd274_93 : decode zxm274.2.1 93 = .ok (.iconst 1, 1) := by decide +kernel
theorem zd274_94 : decode zxm274.2.1 94 = .ok (.if_icmp .ne 7, 3) := by decide +kernel
theorem zd274_97 : decode zxm274.2.1 97 = .ok (.iload_n 3, 1) := by decide +kernel
theorem zd274_98 : decode zxm274.2.1 98 = .ok (.goto 11, 3) := by decide +kernel
theorem zd274_101 : decode zxm274.2.1 101 = .ok (.aload_n 0, 1) := by decide +kernel
theorem zd274_102 : decode zxm274.2.1 102 = .ok (.iload_n 3, 1) := by decide +kernel
theorem zd274_103 : decode zxm274.2.1 103 = .ok (.iload_n 3, 1) := by decide +kernel
theorem zd274_104 : decode zxm274.2.1 104 = .ok (.iconst 1, 1) := by decide +kernel
theorem zd274_105 : decode zxm274.2.1 105 = .ok (.iadd, 1) := by decide +kernel
theorem zd274_106 : decode zxm274.2.1 106 = .ok (.invokevirtual 388, 3) := by decide +kernel
theorem zd274_109 : decode zxm274.2.1 109 = .ok (.ireturn, 1) := by decide +kernel
theorem zt_M_alike {x1 : Int} {f0 : Int} {g0 : (Int → Int)} {g1 : (Int → Int)} {g2 : (Int → Int)} {g3 : (Int → Int)} {g4 : (Int → Int)} {g5 : (Int → Int)} {g6 : (Int → Int)} {g7 : (Int → Int)} {g8 : (Int → Int)} {g9 : (Int → Int)} {o : Int × (Int → Int) × (Int → Int) × (Int → Int) × (Int → Int) × (Int → Int)} (h : zf_M_alike x1 f0 g0 g1 g2 g3 g4 g5 g6 g7 g8 g9 = some o) : zv_Fn z_TB z_cl z_KX zy_M_alike zxm274 (7, 420) [.inr 0, .inl x1] [.inl f0] [g0, g1, g2, g3, g4, g5, g6, g7, g8, g9] (some o.1) [.inl f0] [g0, g1, o.2.1, g3, g4, g5, o.2.2.1, o.2.2.2.1, o.2.2.2.2.1, o.2.2.2.2.2] := zv_meth (K := (z_KF13, z_KC13, z_KL13, z_KT13, [], [], [], none)) (FT := z_FT) (MT := z_MT) (n := 2) zxp274 (z_ks13 _ (fun _ h => List.mem_cons_of_mem _ h) _ _ _ _ (fun j r h _ => by cases h)) (fun _ _ => zs_KX_p) zyw_M_alike (fun va F G h => by obtain ⟨rfl, _⟩ := h; rfl) (fun va F G h => by obtain ⟨rfl, _⟩ := h; rfl) rfl fun good va F G hB hret hvret hP => by
  obtain ⟨rfl, rfl, rfl⟩ := hP
  have l0 : ∀ (n : Nat) (x1 : Int) (x2 : Int) (x3 : Int) (x4 : Int) (g2 : (Int → Int)) (g6 : (Int → Int)) (g7 : (Int → Int)) (g8 : (Int → Int)) (g9 : (Int → Int)) (q : Int × Int), zf_M_alike_l0 g8 g9 n x2 x3 x4 = some q → (good 76 [.inr 0, .inl x1, .inl q.1, .inl q.2, .inr 1000] [] [.inl f0] [g0, g1, g2, g3, g4, g5, g6, g7, g8, g9]) → good 22 [.inr 0, .inl x1, .inl x2, .inl x3, .inl x4] [] [.inl f0] [g0, g1, g2, g3, g4, g5, g6, g7, g8, g9] := by
    intro n
    induction n with
    | zero => intro x1 x2 x3 x4 g2 g6 g7 g8 g9 q h; exact absurd (show none = some q from h) (fun h => by cases h)
    | succ n ih =>
      intro x1 x2 x3 x4 g2 g6 g7 g8 g9 q h hK
      replace h : zf_M_alike_l0_b g8 g9 (zf_M_alike_l0 g8 g9 n) x2 x3 x4 = some q := h
      unfold zf_M_alike_l0_b at h
      refine zv_ild hB zd274_22 rfl rfl ?_
      refine zv_con hB zd274_24 rfl ?_
      refine zv_cge hB zd274_27 rfl (fun hc4 => ?_) (fun hc4 => ?_)
      · rw [if_neg (Int.not_lt.mpr hc4)] at h
        have hq := Option.some.inj h
        subst hq
        refine zv_wk hB (L' := [.inr 0, .inl x1, .inl x2, .inl x3, .inr 1000]) (F' := [.inl f0]) ⟨fun _ => rfl, fun _ => rfl, fun _ => rfl, fun _ => rfl, fun (h : zv_is (.inr 1000)) => (Nat.lt_irrefl 1000 h).elim, trivial⟩ ⟨fun _ => rfl, trivial⟩ ?_
        exact hK
      · rw [if_pos hc4] at h
        refine zv_ald hB zd274_30 rfl rfl rfl ?_
        refine zv_getr hB zd274_31 rfl ?_
        refine zv_ild hB zd274_34 rfl rfl ?_
        obtain ⟨c5, h⟩ := zi_if h
        refine zv_iald hB zd274_36 rfl rfl (zi_ix_ok c5).1 (zi_ix_ok c5).2 (fun _ _ => ?_)
        refine zv_zeq hB zd274_37 rfl (fun hc6 => ?_) (fun hc6 => ?_)
        · rw [if_pos hc6] at h
          refine zv_iincw hB zd274_70 rfl rfl ?_
          refine zv_goto hB zd274_73 rfl ?_
          exact ih _ _ _ _ _ _ _ _ _ q h hK
        · rw [if_neg hc6] at h
          refine zv_ald hB zd274_40 rfl rfl rfl ?_
          refine zv_ild hB zd274_41 rfl rfl ?_
          refine zv_con hB zd274_43 rfl ?_
          obtain ⟨r7, hr7, h⟩ := zi_bind h
          refine zv_cv hB (zv_emq (va2 := [.inr 0, .inl x4, .inl 0]) (F := [.inl f0]) (F' := [.inl f0]) (G := [g0, g1, g2, g3, g4, g5, g6, g7, g8, g9]) (G' := [g0, g1, g2, g3, g4, g5, g6, g7, g8, g9]) (ρ := [0, 9, 10]) (φ := []) (ψ := [8, 9]) [none] [none, none, none, none, none, none, none, none, some 0, some 1] zyw_M_alikeFrom zyw_M_alike zye_M_alike (by decide +kernel) (zt_M_alikeFrom hr7) trivial ⟨rfl, rfl, trivial⟩ rfl rfl rfl rfl rfl rfl rfl) zd274_44 zxt279 rfl (by decide) (by decide) rfl ?_
          refine zv_con hB zd274_47 rfl ?_
          refine zv_cne hB zd274_48 rfl (fun hc8 => ?_) (fun hc8 => ?_)
          · rw [if_neg hc8] at h
            refine zv_ild hB zd274_54 rfl rfl ?_
            refine zv_con hB zd274_55 rfl ?_
            refine zv_cne hB zd274_56 rfl (fun hc9 => ?_) (fun hc9 => ?_)
            · rw [if_neg hc9] at h
              refine zv_ild hB zd274_64 rfl rfl ?_
              refine zv_ist hB zd274_65 rfl rfl rfl ?_
              refine zv_ild hB zd274_66 rfl rfl ?_
              refine zv_con hB zd274_67 rfl ?_
              refine zv_addw hB zd274_68 ?_
              refine zv_ist hB zd274_69 rfl rfl rfl ?_
              refine zv_iincw hB zd274_70 rfl rfl ?_
              refine zv_goto hB zd274_73 rfl ?_
              exact ih _ _ _ _ _ _ _ _ _ q h hK
            · rw [if_pos hc9] at h
              refine zv_ild hB zd274_59 rfl rfl ?_
              refine zv_goto hB zd274_61 rfl ?_
              refine zv_ist hB zd274_65 rfl rfl rfl ?_
              refine zv_ild hB zd274_66 rfl rfl ?_
              refine zv_con hB zd274_67 rfl ?_
              refine zv_addw hB zd274_68 ?_
              refine zv_ist hB zd274_69 rfl rfl rfl ?_
              refine zv_iincw hB zd274_70 rfl rfl ?_
              refine zv_goto hB zd274_73 rfl ?_
              exact ih _ _ _ _ _ _ _ _ _ q h hK
          · rw [if_pos hc8] at h
            refine zv_goto hB zd274_51 rfl ?_
            refine zv_iincw hB zd274_70 rfl rfl ?_
            refine zv_goto hB zd274_73 rfl ?_
            exact ih _ _ _ _ _ _ _ _ _ q h hK
  unfold zf_M_alike at h
  refine zv_ild hB zd274_0 rfl rfl ?_
  refine zv_con hB zd274_1 rfl ?_
  refine zv_con hB zd274_2 rfl ?_
  obtain ⟨r1, hr1, h⟩ := zi_bind h
  refine zv_cs hB (zv_emq (va2 := [.inl x1, .inl 0, .inl 2]) (F := [.inl f0]) (F' := [.inl f0]) (G := [g0, g1, g2, g3, g4, g5, g6, g7, g8, g9]) (G' := [g0, g1, g2, g3, g4, g5, g6, g7, g8, g9]) (ρ := []) (φ := []) (ψ := []) [none] [none, none, none, none, none, none, none, none, none, none] zyw_M_in zyw_M_alike zye_M_alike (by decide +kernel) (zt_M_in hr1) trivial trivial rfl rfl rfl rfl rfl rfl rfl) zd274_3 zxt200 rfl (by decide) (by decide) rfl ?_
  refine zv_zne hB zd274_6 rfl (fun hc2 => ?_) (fun hc2 => ?_)
  · rw [if_neg hc2] at h
    refine zv_ald hB zd274_11 rfl rfl rfl ?_
    obtain ⟨r3, hr3, h⟩ := zi_bind h
    refine zv_cv hB (zv_emq (va2 := [.inr 0]) (F := [.inl f0]) (F' := [.inl f0]) (G := [g0, g1, g2, g3, g4, g5, g6, g7, g8, g9]) (G' := [g0, g1, r3.1, g3, g4, g5, r3.2.1, r3.2.2.1, r3.2.2.2.1, r3.2.2.2.2]) (ρ := [0, 1, 2, 3, 4, 5, 6, 7, 8, 9, 10]) (φ := [0]) (ψ := [0, 1, 2, 3, 4, 5, 6, 7, 8, 9]) [some 0] [some 0, some 1, some 2, some 3, some 4, some 5, some 6, some 7, some 8, some 9] zyw_M_laysPatches zyw_M_alike zye_M_alike (by decide +kernel) (zt_M_laysPatches hr3) ⟨⟨_, rfl, fun _ => rfl⟩, trivial⟩ ⟨rfl, rfl, rfl, rfl, rfl, rfl, rfl, rfl, rfl, rfl, trivial⟩ rfl rfl rfl rfl rfl rfl rfl) zd274_12 zxt275 rfl (by decide) (by decide) rfl ?_
    refine zv_con hB zd274_15 rfl ?_
    refine zv_ist hB zd274_16 rfl rfl rfl ?_
    refine zv_con hB zd274_17 rfl ?_
    refine zv_ist hB zd274_18 rfl rfl rfl ?_
    refine zv_con hB zd274_19 rfl ?_
    refine zv_ist hB zd274_20 rfl rfl rfl ?_
    obtain ⟨q10, hq10, h⟩ := zi_bind h
    refine l0 _ _ _ _ _ _ _ _ _ _ q10 hq10 ?_
    show good 76 [.inr 0, .inl x1, .inl q10.1, .inl q10.2, .inr 1000] [] [.inl f0] [g0, g1, r3.1, g3, g4, g5, r3.2.1, r3.2.2.1, r3.2.2.2.1, r3.2.2.2.2]
    refine zv_ild hB zd274_76 rfl rfl ?_
    refine zv_zne hB zd274_77 rfl (fun hc11 => ?_) (fun hc11 => ?_)
    · rw [if_neg hc11] at h
      refine zv_ild hB zd274_82 rfl rfl ?_
      refine zv_con hB zd274_83 rfl ?_
      refine zv_cne hB zd274_84 rfl (fun hc12 => ?_) (fun hc12 => ?_)
      · rw [if_neg hc12] at h
        refine zv_ild hB zd274_92 rfl rfl ?_
        refine zv_con hB zd274_93 rfl ?_
        refine zv_cne hB zd274_94 rfl (fun hc13 => ?_) (fun hc13 => ?_)
        · rw [if_neg hc13] at h
          refine zv_ald hB zd274_101 rfl rfl rfl ?_
          refine zv_ild hB zd274_102 rfl rfl ?_
          refine zv_ild hB zd274_103 rfl rfl ?_
          refine zv_con hB zd274_104 rfl ?_
          refine zv_addw hB zd274_105 ?_
          obtain ⟨r14, hr14, h⟩ := zi_bind h
          refine zv_cv hB (zv_emq (va2 := [.inr 0, .inl q10.2, .inl (zi_w (q10.2 + 1))]) (F := [.inl f0]) (F' := [.inl f0]) (G := [g0, g1, r3.1, g3, g4, g5, r3.2.1, r3.2.2.1, r3.2.2.2.1, r3.2.2.2.2]) (G' := [g0, g1, r3.1, g3, g4, g5, r3.2.1, r3.2.2.1, r3.2.2.2.1, r3.2.2.2.2]) (ρ := [0, 9, 10]) (φ := []) (ψ := [8, 9]) [none] [none, none, none, none, none, none, none, none, some 0, some 1] zyw_M_alikeFrom zyw_M_alike zye_M_alike (by decide +kernel) (zt_M_alikeFrom hr14) trivial ⟨rfl, rfl, trivial⟩ rfl rfl rfl rfl rfl rfl rfl) zd274_106 zxt279 rfl (by decide) (by decide) rfl ?_
          have hw := Option.some.inj h
          subst hw
          exact hret _ _ _ _ _ zd274_109 (by trivial) ⟨rfl, rfl, rfl⟩
        · rw [if_pos hc13] at h
          refine zv_ild hB zd274_97 rfl rfl ?_
          refine zv_goto hB zd274_98 rfl ?_
          have hw := Option.some.inj h
          subst hw
          exact hret _ _ _ _ _ zd274_109 (by trivial) ⟨rfl, rfl, rfl⟩
      · rw [if_pos hc12] at h
        refine zv_con hB zd274_87 rfl ?_
        refine zv_goto hB zd274_89 rfl ?_
        have hw := Option.some.inj h
        subst hw
        exact hret _ _ _ _ _ zd274_109 (by trivial) ⟨rfl, rfl, rfl⟩
    · rw [if_pos hc11] at h
      refine zv_ild hB zd274_80 rfl rfl ?_
      have hw := Option.some.inj h
      subst hw
      exact hret _ _ _ _ _ zd274_81 (by trivial) ⟨rfl, rfl, rfl⟩
  · rw [if_pos hc2] at h
    refine zv_con hB zd274_9 rfl ?_
    have hw := Option.some.inj h
    subst hw
    exact hret _ _ _ _ _ zd274_10 (by trivial) ⟨rfl, rfl, rfl⟩
/-! M_puts_12 ([III)V -/
-- names: 0 (0, 12)('arg', 0)
-- fields: ; arrays: g0 = 0; out: [('g', 0)]
abbrev zy_M_puts_12 : zNL := (1, [], [], [], [(0, 0, 12, 0)])
theorem zyw_M_puts_12 : zv_wf zy_M_puts_12 = true := by decide +kernel
theorem zye_M_puts_12 : zv_ek2 zy_M_puts_12 = true := by decide +kernel
def zf_M_puts_12_l0_b (x2 : Int) (rec : Int → (Int → Int) → Option (Int × (Int → Int))) (x3 : Int) (g0 : (Int → Int)) : Option (Int × (Int → Int)) := if 0 < x3 then (cond (zi_ix (zi_w (x3 - 1)) 12) (if x2 < (g0 (zi_w (x3 - 1))) then (cond (zi_ix x3 12) (rec (zi_w (x3 - 1)) (zv_up g0 x3 (g0 (zi_w (x3 - 1))))) none) else (some (x3, g0))) none) else (some (x3, g0))
def zf_M_puts_12_l0 (x2 : Int) : Nat → Int → (Int → Int) → Option (Int × (Int → Int))
  | 0, _, _ => none
  | n + 1, x3, g0 => zf_M_puts_12_l0_b x2 (zf_M_puts_12_l0 x2 n) x3 g0
def zf_M_puts_12 (x1 : Int) (x2 : Int) (g0 : (Int → Int)) : Option ((Int → Int)) := (zf_M_puts_12_l0 x2 zi_fu x1 g0).bind fun q5 => (cond (zi_ix q5.1 12) (some (zv_up q5.2 q5.1 x2)) none)
theorem zt_M_puts_12 {x1 : Int} {x2 : Int} {g0 : (Int → Int)} {o : (Int → Int)} (h : zf_M_puts_12 x1 x2 g0 = some o) : zv_Fn z_TB z_cl z_KX zy_M_puts_12 zxm278 (0, 0) [.inr 0, .inl x1, .inl x2] [] [g0] none [] [o] := zv_meth (K := (z_KF13, z_KC13, z_KL13, z_KT13, [], [], [], none)) (FT := z_FT) (MT := z_MT) (n := 3) zxp278 (z_ks13 _ (fun _ h => List.mem_cons_of_mem _ h) _ _ _ _ (fun j r h _ => by cases h)) (fun _ _ => zs_KX_p) zyw_M_puts_12 (fun va F G h => by obtain ⟨rfl, _⟩ := h; rfl) (fun va F G h => by obtain ⟨rfl, _⟩ := h; rfl) rfl fun good va F G hB hret hvret hP => by
  obtain ⟨rfl, rfl, rfl⟩ := hP
  have l0 : ∀ (n : Nat) (x2 : Int) (x3 : Int) (g0 : (Int → Int)) (q : Int × (Int → Int)), zf_M_puts_12_l0 x2 n x3 g0 = some q → (good 30 [.inr 0, .inr 1000, .inl x2, .inl q.1] [] [] [q.2]) → good 2 [.inr 0, .inr 1000, .inl x2, .inl x3] [] [] [g0] := by
    intro n
    induction n with
    | zero => intro x2 x3 g0 q h; exact absurd (show none = some q from h) (fun h => by cases h)
    | succ n ih =>
      intro x2 x3 g0 q h hK
      replace h : zf_M_puts_12_l0_b x2 (zf_M_puts_12_l0 x2 n) x3 g0 = some q := h
      unfold zf_M_puts_12_l0_b at h
      refine zv_ild hB zd278_2 rfl rfl ?_
      refine zv_zle hB zd278_3 rfl (fun hc1 => ?_) (fun hc1 => ?_)
      · rw [if_neg (Int.not_lt.mpr hc1)] at h
        have hq := Option.some.inj h
        subst hq
        exact hK
      · rw [if_pos hc1] at h
        refine zv_ald hB zd278_6 rfl rfl rfl ?_
        refine zv_ild hB zd278_7 rfl rfl ?_
        refine zv_con hB zd278_8 rfl ?_
        refine zv_subw hB zd278_9 ?_
        obtain ⟨c2, h⟩ := zi_if h
        refine zv_iald hB zd278_10 rfl rfl (zi_ix_ok c2).1 (zi_ix_ok c2).2 (fun _ _ => ?_)
        refine zv_ild hB zd278_11 rfl rfl ?_
        refine zv_cle hB zd278_12 rfl (fun hc3 => ?_) (fun hc3 => ?_)
        · rw [if_neg (Int.not_lt.mpr hc3)] at h
          have hq := Option.some.inj h
          subst hq
          exact hK
        · rw [if_pos hc3] at h
          refine zv_ald hB zd278_15 rfl rfl rfl ?_
          refine zv_ild hB zd278_16 rfl rfl ?_
          refine zv_ald hB zd278_17 rfl rfl rfl ?_
          refine zv_ild hB zd278_18 rfl rfl ?_
          refine zv_con hB zd278_19 rfl ?_
          refine zv_subw hB zd278_20 ?_
          refine zv_iald hB zd278_21 rfl rfl (zi_ix_ok c2).1 (zi_ix_ok c2).2 (fun _ _ => ?_)
          obtain ⟨c4, h⟩ := zi_if h
          refine zv_iast hB zd278_22 rfl rfl (zi_ix_ok c4).1 (zi_ix_ok c4).2 ?_
          refine zv_ild hB zd278_23 rfl rfl ?_
          refine zv_con hB zd278_24 rfl ?_
          refine zv_subw hB zd278_25 ?_
          refine zv_ist hB zd278_26 rfl rfl rfl ?_
          refine zv_goto hB zd278_27 rfl ?_
          exact ih _ _ _ q h hK
  unfold zf_M_puts_12 at h
  refine zv_ild hB zd278_0 rfl rfl ?_
  refine zv_ist hB zd278_1 rfl rfl rfl ?_
  obtain ⟨q5, hq5, h⟩ := zi_bind h
  refine zv_wk hB (L' := [.inr 0, .inr 1000, .inl x2, .inl x1]) (F' := []) ⟨fun _ => rfl, fun (h : zv_is (.inr 1000)) => (Nat.lt_irrefl 1000 h).elim, fun _ => rfl, fun _ => rfl, trivial⟩ trivial ?_
  refine l0 _ _ _ _ q5 hq5 ?_
  show good 30 [.inr 0, .inr 1000, .inl x2, .inl q5.1] [] [] [q5.2]
  refine zv_ald hB zd278_30 rfl rfl rfl ?_
  refine zv_ild hB zd278_31 rfl rfl ?_
  refine zv_ild hB zd278_32 rfl rfl ?_
  obtain ⟨c6, h⟩ := zi_if h
  refine zv_iast hB zd278_33 rfl rfl (zi_ix_ok c6).1 (zi_ix_ok c6).2 ?_
  have hw := Option.some.inj h
  subst hw
  exact hvret _ _ _ _ zd278_34 trivial ⟨rfl, rfl, rfl⟩
end
section
/-! Methods as functions, and that they do what these do. -/
/-! M_hasParts (II)Z -/
-- names: 0 StarTalesModel('arg', 0), 1 (0, 288)(0, 12, 43), 2 (0, 6912)(0, 12, 42), 3 (0, 12)(0, 12, 45)
-- fields: ; arrays: g0 = 1, g1 = 2, g2 = 3; out: [('ret', None)]
abbrev zy_M_hasParts : zNL := (4, [(0, 12)], [], [(0, 12, 43, 1), (0, 12, 42, 2), (0, 12, 45, 3)], [(1, 0, 288, 0), (2, 0, 6912, 1), (3, 0, 12, 2)])
theorem zyw_M_hasParts : zv_wf zy_M_hasParts = true := by decide +kernel
theorem zye_M_hasParts : zv_ek2 zy_M_hasParts = true := by decide +kernel
def zf_M_hasParts_l1_b (x1 : Int) (x4 : Int) (g0 : (Int → Int)) (g1 : (Int → Int)) (g2 : (Int → Int)) (rec : Int → Option (Int)) (x3 : Int) : Option (Int) := cond (zi_ix x1 288) (if x3 < (g0 x1) then (cond (zi_ix (zi_w ((zi_w (24 * x1)) + x3)) 6912) (cond (zi_ix x4 12) (if (g1 (zi_w ((zi_w (24 * x1)) + x3))) < (g2 x4) then (rec (zi_w (x3 + 1))) else (some x3)) none) none) else (some x3)) none
def zf_M_hasParts_l1 (x1 : Int) (x4 : Int) (g0 : (Int → Int)) (g1 : (Int → Int)) (g2 : (Int → Int)) : Nat → Int → Option (Int)
  | 0, _ => none
  | n + 1, x3 => zf_M_hasParts_l1_b x1 x4 g0 g1 g2 (zf_M_hasParts_l1 x1 x4 g0 g1 g2 n) x3
def zf_M_hasParts_l0_b (x1 : Int) (x2 : Int) (g0 : (Int → Int)) (g1 : (Int → Int)) (g2 : (Int → Int)) (rec : Int → Int → Option (((Unit) ⊕ (Int)))) (x3 : Int) (x4 : Int) : Option (((Unit) ⊕ (Int))) := if x4 < x2 then ((zf_M_hasParts_l1 x1 x4 g0 g1 g2 zi_fu x3).bind fun q7 => (cond (zi_ix x1 288) (if q7 = (g0 x1) then (some (.inr 0)) else (cond (zi_ix (zi_w ((zi_w (24 * x1)) + q7)) 6912) (cond (zi_ix x4 12) (if (g1 (zi_w ((zi_w (24 * x1)) + q7))) = (g2 x4) then (rec (zi_w (q7 + 1)) (zi_w (x4 + 1))) else (some (.inr 0))) none) none)) none)) else (some (.inl ()))
def zf_M_hasParts_l0 (x1 : Int) (x2 : Int) (g0 : (Int → Int)) (g1 : (Int → Int)) (g2 : (Int → Int)) : Nat → Int → Int → Option (((Unit) ⊕ (Int)))
  | 0, _, _ => none
  | n + 1, x3, x4 => zf_M_hasParts_l0_b x1 x2 g0 g1 g2 (zf_M_hasParts_l0 x1 x2 g0 g1 g2 n) x3 x4
def zf_M_hasParts (x1 : Int) (x2 : Int) (g0 : (Int → Int)) (g1 : (Int → Int)) (g2 : (Int → Int)) : Option (Int) := (zf_M_hasParts_l0 x1 x2 g0 g1 g2 zi_fu 0 0).bind fun q13 => Sum.elim (fun e14 => (some 1)) (fun w15 => some w15) q13
theorem zd282_0 : decode zxm282.2.1 0 = .ok (.iconst 0, 1) := by decide +kernel
theorem zd282_1 : decode zxm282.2.1 1 = .ok (.istore_n 3, 1) := by decide +kernel
theorem zd282_2 : decode zxm282.2.1 2 = .ok (.iconst 0, 1) := by decide +kernel
theorem zd282_3 : decode zxm282.2.1 3 = .ok (.istore 4, 2) := by decide +kernel
theorem zd282_5 : decode zxm282.2.1 5 = .ok (.iload 4, 2) := by decide +kernel
theorem zd282_7 : decode zxm282.2.1 7 = .ok (.iload_n 2, 1) := by decide +kernel
theorem zd282_8 : decode zxm282.2.1 8 = .ok (.if_icmp .ge 84, 3) := by decide +kernel
theorem zd282_11 : decode zxm282.2.1 11 = .ok (.iload_n 3, 1) := by decide +kernel
theorem zd282_12 : decode zxm282.2.1 12 = .ok (.aload_n 0, 1) := by decide +kernel
theorem zd282_13 : decode zxm282.2.1 13 = .ok (.getfield 89, 3) := by decide +kernel
theorem zd282_16 : decode zxm282.2.1 16 = .ok (.iload_n 1, 1) := by decide +kernel
theorem zd282_17 : decode zxm282.2.1 17 = .ok (.iaload, 1) := by decide +kernel
theorem zd282_18 : decode zxm282.2.1 18 = .ok (.if_icmp .ge 31, 3) := by decide +kernel
theorem zd282_21 : decode zxm282.2.1 21 = .ok (.aload_n 0, 1) := by decide +kernel
theorem zd282_22 : decode zxm282.2.1 22 = .ok (.getfield 86, 3) := by decide +kernel
theorem zd282_25 : decode zxm282.2.1 25 = .ok (.bipush 24, 2) := by decide +kernel
theorem zd282_27 : decode zxm282.2.1 27 = .ok (.iload_n 1, 1) := by decide +kernel
theorem zd282_28 : decode zxm282.2.1 28 = .ok (.imul, 1) := by decide +kernel
theorem zd282_29 : decode zxm282.2.1 29 = .ok (.iload_n 3, 1) := by decide +kernel
theorem zd282_30 : decode zxm282.2.1 30 = .ok (.iadd, 1) := by decide +kernel
theorem zd282_31 : decode zxm282.2.1 31 = .ok (.iaload, 1) := by decide +kernel
theorem zd282_32 : decode zxm282.2.1 32 = .ok (.aload_n 0, 1) := by decide +kernel
theorem zd282_33 : decode zxm282.2.1 33 = .ok (.getfield 95, 3) := by decide +kernel
theorem zd282_36 : decode zxm282.2.1 36 = .ok (.iload 4, 2) := by decide +kernel
theorem zd282_38 : decode zxm282.2.1 38 = .ok (.iaload, 1) := by decide +kernel
theorem zd282_39 : decode zxm282.2.1 39 = .ok (.if_icmp .ge 10, 3) := by decide +kernel
theorem zd282_42 : decode zxm282.2.1 42 = .ok (.iload_n 3, 1) := by decide +kernel
theorem zd282_43 : decode zxm282.2.1 43 = .ok (.iconst 1, 1) := by decide +kernel
theorem zd282_44 : decode zxm282.2.1 44 = .ok (.iadd, 1) := by decide +kernel
theorem zd282_45 : decode zxm282.2.1 45 = .ok (.istore_n 3, 1) := by decide +kernel
theorem zd282_46 : decode zxm282.2.1 46 = .ok (.goto (-35), 3) := by decide +kernel
theorem zd282_49 : decode zxm282.2.1 49 = .ok (.iload_n 3, 1) := by decide +kernel
theorem zd282_50 : decode zxm282.2.1 50 = .ok (.aload_n 0, 1) := by decide +kernel
theorem zd282_51 : decode zxm282.2.1 51 = .ok (.getfield 89, 3) := by decide +kernel
theorem zd282_54 : decode zxm282.2.1 54 = .ok (.iload_n 1, 1) := by decide +kernel
theorem zd282_55 : decode zxm282.2.1 55 = .ok (.iaload, 1) := by decide +kernel
theorem zd282_56 : decode zxm282.2.1 56 = .ok (.if_icmp .eq 24, 3) := by decide +kernel
theorem zd282_59 : decode zxm282.2.1 59 = .ok (.aload_n 0, 1) := by decide +kernel
theorem zd282_60 : decode zxm282.2.1 60 = .ok (.getfield 86, 3) := by decide +kernel
theorem zd282_63 : decode zxm282.2.1 63 = .ok (.bipush 24, 2) := by decide +kernel
theorem zd282_65 : decode zxm282.2.1 65 = .ok (.iload_n 1, 1) := by decide +kernel
theorem zd282_66 : decode zxm282.2.1 66 = .ok (.imul, 1) := by decide +kernel
theorem zd282_67 : decode zxm282.2.1 67 = .ok (.iload_n 3, 1) := by decide +kernel
theorem zd282_68 : decode zxm282.2.1 68 = .ok (.iadd, 1) := by decide +kernel
theorem zd282_69 : decode zxm282.2.1 69 = .ok (.iaload, 1) := by decide +kernel
theorem zd282_70 : decode zxm282.2.1 70 = .ok (.aload_n 0, 1) := by decide +kernel
theorem zd282_71 : decode zxm282.2.1 71 = .ok (.getfield 95, 3) := by decide +kernel
theorem zd282_74 : decode zxm282.2.1 74 = .ok (.iload 4, 2) := by decide +kernel
theorem zd282_76 : decode zxm282.2.1 76 = .ok (.iaload, 1) := by decide +kernel
theorem zd282_77 : decode zxm282.2.1 77 = .ok (.if_icmp .eq 5, 3) := by decide +kernel
theorem zd282_80 : decode zxm282.2.1 80 = .ok (.iconst 0, 1) := by decide +kernel
theorem zd282_81 : decode zxm282.2.1 81 = .ok (.ireturn, 1) := by decide +kernel
theorem zd282_82 : decode zxm282.2.1 82 = .ok (.iload_n 3, 1) := by decide +kernel
theorem zd282_83 : decode zxm282.2.1 83 = .ok (.iconst 1, 1) := by decide +kernel
theorem zd282_84 : decode zxm282.2.1 84 = .ok (.iadd, 1) := by decide +kernel
theorem zd282_85 : decode zxm282.2.1 85 = .ok (.istore_n 3, 1) := by decide +kernel
theorem zd282_86 : decode zxm282.2.1 86 = .ok (.iinc 4 1, 3) := by decide +kernel
theorem zd282_89 : decode zxm282.2.1 89 = .ok (.goto (-84), 3) := by decide +kernel
theorem zd282_92 : decode zxm282.2.1 92 = .ok (.iconst 1, 1) := by decide +kernel
theorem zd282_93 : decode zxm282.2.1 93 = .ok (.ireturn, 1) := by decide +kernel
theorem zt_M_hasParts {x1 : Int} {x2 : Int} {g0 : (Int → Int)} {g1 : (Int → Int)} {g2 : (Int → Int)} {o : Int} (h : zf_M_hasParts x1 x2 g0 g1 g2 = some o) : zv_Fn z_TB z_cl z_KX zy_M_hasParts zxm282 (0, 0) [.inr 0, .inl x1, .inl x2] [] [g0, g1, g2] (some o) [] [g0, g1, g2] := zv_meth (K := (z_KF13, z_KC13, z_KL13, z_KT13, [], [], [], none)) (FT := z_FT) (MT := z_MT) (n := 3) zxp282 (z_ks13 _ (fun _ h => List.mem_cons_of_mem _ h) _ _ _ _ (fun j r h _ => by cases h)) (fun _ _ => zs_KX_p) zyw_M_hasParts (fun va F G h => by obtain ⟨rfl, _⟩ := h; rfl) (fun va F G h => by obtain ⟨rfl, _⟩ := h; rfl) rfl fun good va F G hB hret hvret hP => by
  obtain ⟨rfl, rfl, rfl⟩ := hP
  have l1 : ∀ (n : Nat) (x1 : Int) (x2 : Int) (x3 : Int) (x4 : Int) (q : Int), zf_M_hasParts_l1 x1 x4 g0 g1 g2 n x3 = some q → (good 49 [.inr 0, .inl x1, .inl x2, .inl q, .inl x4] [] [] [g0, g1, g2]) → good 11 [.inr 0, .inl x1, .inl x2, .inl x3, .inl x4] [] [] [g0, g1, g2] := by
    intro n
    induction n with
    | zero => intro x1 x2 x3 x4 q h; exact absurd (show none = some q from h) (fun h => by cases h)
    | succ n ih =>
      intro x1 x2 x3 x4 q h hK
      replace h : zf_M_hasParts_l1_b x1 x4 g0 g1 g2 (zf_M_hasParts_l1 x1 x4 g0 g1 g2 n) x3 = some q := h
      unfold zf_M_hasParts_l1_b at h
      refine zv_ild hB zd282_11 rfl rfl ?_
      refine zv_ald hB zd282_12 rfl rfl rfl ?_
      refine zv_getr hB zd282_13 rfl ?_
      refine zv_ild hB zd282_16 rfl rfl ?_
      obtain ⟨c2, h⟩ := zi_if h
      refine zv_iald hB zd282_17 rfl rfl (zi_ix_ok c2).1 (zi_ix_ok c2).2 (fun _ _ => ?_)
      refine zv_cge hB zd282_18 rfl (fun hc3 => ?_) (fun hc3 => ?_)
      · rw [if_neg (Int.not_lt.mpr hc3)] at h
        have hq := Option.some.inj h
        subst hq
        exact hK
      · rw [if_pos hc3] at h
        refine zv_ald hB zd282_21 rfl rfl rfl ?_
        refine zv_getr hB zd282_22 rfl ?_
        refine zv_con hB zd282_25 rfl ?_
        refine zv_ild hB zd282_27 rfl rfl ?_
        refine zv_mulw hB zd282_28 ?_
        refine zv_ild hB zd282_29 rfl rfl ?_
        refine zv_addw hB zd282_30 ?_
        obtain ⟨c4, h⟩ := zi_if h
        refine zv_iald hB zd282_31 rfl rfl (zi_ix_ok c4).1 (zi_ix_ok c4).2 (fun _ _ => ?_)
        refine zv_ald hB zd282_32 rfl rfl rfl ?_
        refine zv_getr hB zd282_33 rfl ?_
        refine zv_ild hB zd282_36 rfl rfl ?_
        obtain ⟨c5, h⟩ := zi_if h
        refine zv_iald hB zd282_38 rfl rfl (zi_ix_ok c5).1 (zi_ix_ok c5).2 (fun _ _ => ?_)
        refine zv_cge hB zd282_39 rfl (fun hc6 => ?_) (fun hc6 => ?_)
        · rw [if_neg (Int.not_lt.mpr hc6)] at h
          have hq := Option.some.inj h
          subst hq
          exact hK
        · rw [if_pos hc6] at h
          refine zv_ild hB zd282_42 rfl rfl ?_
          refine zv_con hB zd282_43 rfl ?_
          refine zv_addw hB zd282_44 ?_
          refine zv_ist hB zd282_45 rfl rfl rfl ?_
          refine zv_goto hB zd282_46 rfl ?_
          exact ih _ _ _ _ q h hK
  have l0 : ∀ (n : Nat) (x1 : Int) (x2 : Int) (x3 : Int) (x4 : Int) (q : ((Unit) ⊕ (Int))), zf_M_hasParts_l0 x1 x2 g0 g1 g2 n x3 x4 = some q → (Sum.elim (fun e : Unit => good 92 [.inr 1000, .inr 1000, .inr 1000, .inr 1000, .inr 1000] [] [] [g0, g1, g2]) (fun w : Int => w = o) q) → good 5 [.inr 0, .inl x1, .inl x2, .inl x3, .inl x4] [] [] [g0, g1, g2] := by
    intro n
    induction n with
    | zero => intro x1 x2 x3 x4 q h; exact absurd (show none = some q from h) (fun h => by cases h)
    | succ n ih =>
      intro x1 x2 x3 x4 q h hK
      replace h : zf_M_hasParts_l0_b x1 x2 g0 g1 g2 (zf_M_hasParts_l0 x1 x2 g0 g1 g2 n) x3 x4 = some q := h
      unfold zf_M_hasParts_l0_b at h
      refine zv_ild hB zd282_5 rfl rfl ?_
      refine zv_ild hB zd282_7 rfl rfl ?_
      refine zv_cge hB zd282_8 rfl (fun hc1 => ?_) (fun hc1 => ?_)
      · rw [if_neg (Int.not_lt.mpr hc1)] at h
        have hq := Option.some.inj h
        subst hq
        refine zv_wk hB (L' := [.inr 1000, .inr 1000, .inr 1000, .inr 1000, .inr 1000]) (F' := []) ⟨fun (h : zv_is (.inr 1000)) => (Nat.lt_irrefl 1000 h).elim, fun (h : zv_is (.inr 1000)) => (Nat.lt_irrefl 1000 h).elim, fun (h : zv_is (.inr 1000)) => (Nat.lt_irrefl 1000 h).elim, fun (h : zv_is (.inr 1000)) => (Nat.lt_irrefl 1000 h).elim, fun (h : zv_is (.inr 1000)) => (Nat.lt_irrefl 1000 h).elim, trivial⟩ trivial ?_
        exact hK
      · rw [if_pos hc1] at h
        obtain ⟨q7, hq7, h⟩ := zi_bind h
        refine l1 _ _ _ _ _ q7 hq7 ?_
        show good 49 [.inr 0, .inl x1, .inl x2, .inl q7, .inl x4] [] [] [g0, g1, g2]
        refine zv_ild hB zd282_49 rfl rfl ?_
        refine zv_ald hB zd282_50 rfl rfl rfl ?_
        refine zv_getr hB zd282_51 rfl ?_
        refine zv_ild hB zd282_54 rfl rfl ?_
        obtain ⟨c8, h⟩ := zi_if h
        refine zv_iald hB zd282_55 rfl rfl (zi_ix_ok c8).1 (zi_ix_ok c8).2 (fun _ _ => ?_)
        refine zv_ceq hB zd282_56 rfl (fun hc9 => ?_) (fun hc9 => ?_)
        · rw [if_pos hc9] at h
          refine zv_con hB zd282_80 rfl ?_
          have hw : 0 = o := zi_rk (Option.some.inj h) hK
          subst hw
          exact hret _ _ _ _ _ zd282_81 (by constructor <;> decide) ⟨rfl, rfl, rfl⟩
        · rw [if_neg hc9] at h
          refine zv_ald hB zd282_59 rfl rfl rfl ?_
          refine zv_getr hB zd282_60 rfl ?_
          refine zv_con hB zd282_63 rfl ?_
          refine zv_ild hB zd282_65 rfl rfl ?_
          refine zv_mulw hB zd282_66 ?_
          refine zv_ild hB zd282_67 rfl rfl ?_
          refine zv_addw hB zd282_68 ?_
          obtain ⟨c10, h⟩ := zi_if h
          refine zv_iald hB zd282_69 rfl rfl (zi_ix_ok c10).1 (zi_ix_ok c10).2 (fun _ _ => ?_)
          refine zv_ald hB zd282_70 rfl rfl rfl ?_
          refine zv_getr hB zd282_71 rfl ?_
          refine zv_ild hB zd282_74 rfl rfl ?_
          obtain ⟨c11, h⟩ := zi_if h
          refine zv_iald hB zd282_76 rfl rfl (zi_ix_ok c11).1 (zi_ix_ok c11).2 (fun _ _ => ?_)
          refine zv_ceq hB zd282_77 rfl (fun hc12 => ?_) (fun hc12 => ?_)
          · rw [if_pos hc12] at h
            refine zv_ild hB zd282_82 rfl rfl ?_
            refine zv_con hB zd282_83 rfl ?_
            refine zv_addw hB zd282_84 ?_
            refine zv_ist hB zd282_85 rfl rfl rfl ?_
            refine zv_iincw hB zd282_86 rfl rfl ?_
            refine zv_goto hB zd282_89 rfl ?_
            exact ih _ _ _ _ q h hK
          · rw [if_neg hc12] at h
            refine zv_con hB zd282_80 rfl ?_
            have hw : 0 = o := zi_rk (Option.some.inj h) hK
            subst hw
            exact hret _ _ _ _ _ zd282_81 (by constructor <;> decide) ⟨rfl, rfl, rfl⟩
  unfold zf_M_hasParts at h
  refine zv_con hB zd282_0 rfl ?_
  refine zv_ist hB zd282_1 rfl rfl rfl ?_
  refine zv_con hB zd282_2 rfl ?_
  refine zv_ist hB zd282_3 rfl rfl rfl ?_
  obtain ⟨q13, hq13, h⟩ := zi_bind h
  refine l0 _ _ _ _ _ q13 hq13 ?_
  rcases q13 with e14 | w15
  · replace h := zi_sl h
    show good 92 [.inr 1000, .inr 1000, .inr 1000, .inr 1000, .inr 1000] [] [] [g0, g1, g2]
    refine zv_con hB zd282_92 rfl ?_
    have hw := Option.some.inj h
    subst hw
    exact hret _ _ _ _ _ zd282_93 (by constructor <;> decide) ⟨rfl, rfl, rfl⟩
  · exact Option.some.inj h
/-! M_known (II)I -/
-- names: 0 StarTalesModel('arg', 0), 1 (1, 220)(0, 12, 3), 2 (0, 12)(0, 12, 45), 3 (0, 422)(0, 12, 0), 4 (0, 14)(0, 12, 21), 5 (0, 13)(0, 12, 26), 6 (0, 14)(0, 12, 23), 7 (0, 14)(0, 12, 24), 8 (0, 220)(0, 12, 20), 9 (0, 220)(0, 12, 25), 10 (0, 24)(0, 12, 44), 11 (0, 288)(0, 12, 43), 12 (0, 6912)(0, 12, 42)
-- fields: f0 = 0.taped_, f1 = 0.clauses_; arrays: g0 = 1, g1 = 2, g2 = 3, g3 = 4, g4 = 5, g5 = 6, g6 = 7, g7 = 8, g8 = 9, g9 = 10, g10 = 11, g11 = 12; out: [('ret', None), ('f', 0), ('g', 1), ('g', 4), ('g', 8), ('g', 9), ('g', 10), ('g', 11)]
abbrev zy_M_known : zNL := (13, [(0, 12)], [(0, 12, 4, 0), (0, 12, 13, 1)], [(0, 12, 3, 1), (0, 12, 45, 2), (0, 12, 0, 3), (0, 12, 21, 4), (0, 12, 26, 5), (0, 12, 23, 6), (0, 12, 24, 7), (0, 12, 20, 8), (0, 12, 25, 9), (0, 12, 44, 10), (0, 12, 43, 11), (0, 12, 42, 12)], [(1, 1, 220, 0), (2, 0, 12, 1), (3, 0, 422, 2), (4, 0, 14, 3), (5, 0, 13, 4), (6, 0, 14, 5), (7, 0, 14, 6), (8, 0, 220, 7), (9, 0, 220, 8), (10, 0, 24, 9), (11, 0, 288, 10), (12, 0, 6912, 11)])
theorem zyw_M_known : zv_wf zy_M_known = true := by decide +kernel
theorem zye_M_known : zv_ek2 zy_M_known = true := by decide +kernel
def zf_M_known_l0_b (x1 : Int) (g0 : (Int → Int)) (rec : Int → (Int → Int) → Option ((Int → Int))) (x3 : Int) (g1 : (Int → Int)) : Option ((Int → Int)) := if x3 < x1 then (cond (zi_ix (zi_w (3 * x3)) 220) (cond (zi_ix (zi_w ((zi_w (3 * x3)) + 1)) 220) (cond (zi_ix (zi_w ((zi_w (3 * x3)) + 2)) 220) (if 24 < (zi_and (g0 (zi_w (3 * x3))) 255) then ((zf_M_puts_12 x3 1000000000 g1).bind fun r11 => (rec (zi_w (x3 + 1)) r11)) else (if 24 < (zi_and (g0 (zi_w ((zi_w (3 * x3)) + 1))) 255) then ((zf_M_puts_12 x3 1000000000 g1).bind fun r13 => (rec (zi_w (x3 + 1)) r13)) else (if 9 < (zi_and (g0 (zi_w ((zi_w (3 * x3)) + 2))) 255) then ((zf_M_puts_12 x3 1000000000 g1).bind fun r16 => (rec (zi_w (x3 + 1)) r16)) else ((zf_M_puts_12 x3 (zi_w ((zi_w ((zi_w (1000 * (zi_and (g0 (zi_w (3 * x3))) 255))) + (zi_w (10 * (zi_and (g0 (zi_w ((zi_w (3 * x3)) + 1))) 255))))) + (zi_and (g0 (zi_w ((zi_w (3 * x3)) + 2))) 255))) g1).bind fun r15 => (rec (zi_w (x3 + 1)) r15))))) none) none) none) else (some g1)
def zf_M_known_l0 (x1 : Int) (g0 : (Int → Int)) : Nat → Int → (Int → Int) → Option ((Int → Int))
  | 0, _, _ => none
  | n + 1, x3, g1 => zf_M_known_l0_b x1 g0 (zf_M_known_l0 x1 g0 n) x3 g1
def zf_M_known_l1_b (x1 : Int) (x2 : Int) (g1 : (Int → Int)) (g10 : (Int → Int)) (g11 : (Int → Int)) (rec : Int → Int → Int → Option (Int × Int)) (x3 : Int) (x4 : Int) (x5 : Int) : Option (Int × Int) := if x5 < 288 then ((zf_M_hasParts x5 x1 g10 g11 g1).bind fun r20 => (if r20 = 0 then (rec x3 x4 (zi_w (x5 + 1))) else (if 1 < x2 then (cond (zi_ix x5 288) (if (g10 x5) = x1 then (if x3 = 0 then (rec (zi_w (x3 + 1)) x5 (zi_w (x5 + 1))) else (rec (zi_w (x3 + 1)) x4 (zi_w (x5 + 1)))) else (rec x3 x4 (zi_w (x5 + 1)))) none) else (if x3 = 0 then (rec (zi_w (x3 + 1)) x5 (zi_w (x5 + 1))) else (rec (zi_w (x3 + 1)) x4 (zi_w (x5 + 1))))))) else (some (x3, x4))
def zf_M_known_l1 (x1 : Int) (x2 : Int) (g1 : (Int → Int)) (g10 : (Int → Int)) (g11 : (Int → Int)) : Nat → Int → Int → Int → Option (Int × Int)
  | 0, _, _, _ => none
  | n + 1, x3, x4, x5 => zf_M_known_l1_b x1 x2 g1 g10 g11 (zf_M_known_l1 x1 x2 g1 g10 g11 n) x3 x4 x5
def zf_M_known (x1 : Int) (x2 : Int) (f0 : Int) (f1 : Int) (g0 : (Int → Int)) (g1 : (Int → Int)) (g2 : (Int → Int)) (g3 : (Int → Int)) (g4 : (Int → Int)) (g5 : (Int → Int)) (g6 : (Int → Int)) (g7 : (Int → Int)) (g8 : (Int → Int)) (g9 : (Int → Int)) (g10 : (Int → Int)) (g11 : (Int → Int)) : Option (Int × Int × (Int → Int) × (Int → Int) × (Int → Int) × (Int → Int) × (Int → Int) × (Int → Int)) := (zf_M_in x1 1 12).bind fun r1 => (if r1 = 0 then (some ((-1), f0, g1, g4, g8, g9, g10, g11)) else ((zf_M_in x2 0 3).bind fun r3 => (if r3 = 0 then (some ((-1), f0, g1, g4, g8, g9, g10, g11)) else (if f0 < (zi_w (3 * x1)) then (some ((-1), f0, g1, g4, g8, g9, g10, g11)) else ((zf_M_known_l0 x1 g0 zi_fu 0 g1).bind fun q17 => ((zf_M_laysPatches f1 g2 g3 g4 g5 g6 g7 g8 g9 g10 g11).bind fun r18 => ((zf_M_known_l1 x1 x2 q17 r18.2.2.2.1 r18.2.2.2.2 zi_fu 0 (-2) 0).bind fun q27 => (if (zi_rem x2 2) = 0 then (some (q27.1, 0, q17, r18.1, r18.2.1, r18.2.2.1, r18.2.2.2.1, r18.2.2.2.2)) else (some (q27.2, 0, q17, r18.1, r18.2.1, r18.2.2.1, r18.2.2.2.1, r18.2.2.2.2))))))))))
theorem zd281_0 : decode zxm281.2.1 0 = .ok (.iload_n 1, 1) := by decide +kernel
theorem zd281_1 : decode zxm281.2.1 1 = .ok (.iconst 1, 1) := by decide +kernel
theorem zd281_2 : decode zxm281.2.1 2 = .ok (.bipush 12, 2) := by decide +kernel
theorem zd281_4 : decode zxm281.2.1 4 = .ok (.invokestatic 150, 3) := by decide +kernel
theorem zd281_7 : decode zxm281.2.1 7 = .ok (.ifCond .eq 22, 3) := by decide +kernel
theorem zd281_10 : decode zxm281.2.1 10 = .ok (.iload_n 2, 1) := by decide +kernel
theorem zd281_11 : decode zxm281.2.1 11 = .ok (.iconst 0, 1) := by decide +kernel
theorem zd281_12 : decode zxm281.2.1 12 = .ok (.iconst 3, 1) := by decide +kernel
theorem zd281_13 : decode zxm281.2.1 13 = .ok (.invokestatic 150, 3) := by decide +kernel
theorem zd281_16 : decode zxm281.2.1 16 = .ok (.ifCond .eq 13, 3) := by decide +kernel
theorem zd281_19 : decode zxm281.2.1 19 = .ok (.iconst 3, 1) := by decide +kernel
theorem zd281_20 : decode zxm281.2.1 20 = .ok (.iload_n 1, 1) := by decide +kernel
theorem zd281_21 : decode zxm281.2.1 21 = .ok (.imul, 1) := by decide +kernel
theorem zd281_22 : decode zxm281.2.1 22 = .ok (.aload_n 0, 1) := by decide +kernel
theorem zd281_23 : decode zxm281.2.1 23 = .ok (.getfield 168, 3) := by decide +kernel
theorem zd281_26 : decode zxm281.2.1 26 = .ok (.if_icmp .le 5, 3) := by decide +kernel
theorem zd281_29 : decode zxm281.2.1 29 = .ok (.iconst (-1), 1) := by decide +kernel
theorem zd281_30 : decode zxm281.2.1 30 = .ok (.ireturn, 1) := by decide +kernel
theorem zd281_31 : decode zxm281.2.1 31 = .ok (.aload_n 0, 1) := by decide +kernel
theorem zd281_32 : decode zxm281.2.1 32 = .ok (.iconst 0, 1) := by decide +kernel
theorem zd281_33 : decode zxm281.2.1 33 = .ok (.putfield 168, 3) := by decide +kernel
theorem zd281_36 : decode zxm281.2.1 36 = .ok (.iconst 0, 1) := by decide +kernel
theorem zd281_37 : decode zxm281.2.1 37 = .ok (.istore_n 3, 1) := by decide +kernel
theorem zd281_38 : decode zxm281.2.1 38 = .ok (.iload_n 3, 1) := by decide +kernel
theorem zd281_39 : decode zxm281.2.1 39 = .ok (.iload_n 1, 1) := by decide +kernel
theorem zd281_40 : decode zxm281.2.1 40 = .ok (.if_icmp .ge 105, 3) := by decide +kernel
theorem zd281_43 : decode zxm281.2.1 43 = .ok (.aload_n 0, 1) := by decide +kernel
theorem zd281_44 : decode zxm281.2.1 44 = .ok (.getfield 19, 3) := by decide +kernel
theorem zd281_47 : decode zxm281.2.1 47 = .ok (.iconst 3, 1) := by decide +kernel
theorem zd281_48 : decode zxm281.2.1 48 = .ok (.iload_n 3, 1) := by decide +kernel
theorem zd281_49 : decode zxm281.2.1 49 = .ok (.imul, 1) := by decide +kernel
theorem zd281_50 : decode zxm281.2.1 50 = .ok (.baload, 1) := by decide +kernel
theorem zd281_51 : decode zxm281.2.1 51 = .ok (.sipush 255, 3) := by decide +kernel
theorem zd281_54 : decode zxm281.2.1 54 = .ok (.iand, 1) := by decide +kernel
theorem zd281_55 : decode zxm281.2.1 55 = .ok (.istore 4, 2) := by decide +kernel
theorem zd281_57 : decode zxm281.2.1 57 = .ok (.aload_n 0, 1) := by decide +kernel
theorem zd281_58 : decode zxm281.2.1 58 = .ok (.getfield 19, 3) := by decide +kernel
theorem zd281_61 : decode zxm281.2.1 61 = .ok (.iconst 3, 1) := by decide +kernel
theorem zd281_62 : decode zxm281.2.1 62 = .ok (.iload_n 3, 1) := by decide +kernel
theorem zd281_63 : decode zxm281.2.1 63 = .ok (.imul, 1) := by decide +kernel
theorem zd281_64 : decode zxm281.2.1 64 = .ok (.iconst 1, 1) := by decide +kernel
theorem zd281_65 : decode zxm281.2.1 65 = .ok (.iadd, 1) := by decide +kernel
theorem zd281_66 : decode zxm281.2.1 66 = .ok (.baload, 1) := by decide +kernel
theorem zd281_67 : decode zxm281.2.1 67 = .ok (.sipush 255, 3) := by decide +kernel
theorem zd281_70 : decode zxm281.2.1 70 = .ok (.iand, 1) := by decide +kernel
theorem zd281_71 : decode zxm281.2.1 71 = .ok (.istore 5, 2) := by decide +kernel
theorem zd281_73 : decode zxm281.2.1 73 = .ok (.aload_n 0, 1) := by decide +kernel
theorem zd281_74 : decode zxm281.2.1 74 = .ok (.getfield 19, 3) := by decide +kernel
theorem zd281_77 : decode zxm281.2.1 77 = .ok (.iconst 3, 1) := by decide +kernel
theorem zd281_78 : decode zxm281.2.1 78 = .ok (.iload_n 3, 1) := by decide +kernel
theorem zd281_79 : decode zxm281.2.1 79 = .ok (.imul, 1) := by decide +kernel
theorem zd281_80 : decode zxm281.2.1 80 = .ok (.iconst 2, 1) := by decide +kernel
theorem zd281_81 : decode zxm281.2.1 81 = .ok (.iadd, 1) := by decide +kernel
theorem zd281_82 : decode zxm281.2.1 82 = .ok (.baload, 1) := by decide +kernel
theorem zd281_83 : decode zxm281.2.1 83 = .ok (.sipush 255, 3) := by decide +kernel
theorem zd281_86 : decode zxm281.2.1 86 = .ok (.iand, 1) := by decide +kernel
theorem zd281_87 : decode zxm281.2.1 87 = .ok (.istore 6, 2) := by decide +kernel
theorem zd281_89 : decode zxm281.2.1 89 = .ok (.aload_n 0, 1) := by decide +kernel
theorem zd281_90 : decode zxm281.2.1 90 = .ok (.getfield 95, 3) := by decide +kernel
theorem zd281_93 : decode zxm281.2.1 93 = .ok (.iload_n 3, 1) := by decide +kernel
theorem zd281_94 : decode zxm281.2.1 94 = .ok (.iload 4, 2) := by decide +kernel
theorem zd281_96 : decode zxm281.2.1 96 = .ok (.bipush 24, 2) := by decide +kernel
theorem zd281_98 : decode zxm281.2.1 98 = .ok (.if_icmp .gt 17, 3) := by decide +kernel
theorem zd281_101 : decode zxm281.2.1 101 = .ok (.iload 5, 2) := by decide +kernel
theorem zd281_103 : decode zxm281.2.1 103 = .ok (.bipush 24, 2) := by decide +kernel
theorem zd281_105 : decode zxm281.2.1 105 = .ok (.if_icmp .gt 10, 3) := by decide +kernel
theorem zd281_108 : decode zxm281.2.1 108 = .ok (.iload 6, 2) := by decide +kernel
theorem zd281_110 : decode zxm281.2.1 110 = .ok (.bipush 9, 2) := by decide +kernel
theorem zd281_112 : decode zxm281.2.1 112 = .ok (.if_icmp .le 9, 3) := by decide +kernel
theorem zd281_115 : decode zxm281.2.1 115 = .ok (.ldc_w 391, 3) := by decide +kernel
theorem zd281_118 : decode zxm281.2.1 118 = .ok (.goto 18, 3) := by decide +kernel
theorem zd281_121 : decode zxm281.2.1 121 = .ok (.sipush 1000, 3) := by decide +kernel
theorem zd281_124 : decode zxm281.2.1 124 = .ok (.iload 4, 2) := by decide +kernel
theorem zd281_126 : decode zxm281.2.1 126 = .ok (.imul, 1) := by decide +kernel
theorem zd281_127 : decode zxm281.2.1 127 = .ok (.bipush 10, 2) := by decide +kernel
theorem zd281_129 : decode zxm281.2.1 129 = .ok (.iload 5, 2) := by decide +kernel
theorem zd281_131 : decode zxm281.2.1 131 = .ok (.imul, 1) := by decide +kernel
theorem zd281_132 : decode zxm281.2.1 132 = .ok (.iadd, 1) := by decide +kernel
theorem zd281_133 : decode zxm281.2.1 133 = .ok (.iload 6, 2) := by decide +kernel
theorem zd281_135 : decode zxm281.2.1 135 = .ok (.iadd, 1) := by decide +kernel
theorem zd281_136 : decode zxm281.2.1 136 = .ok (.invokestatic 375, 3) := by decide +kernel
theorem zd281_139 : decode zxm281.2.1 139 = .ok (.iinc 3 1, 3) := by decide +kernel
theorem zd281_142 : decode zxm281.2.1 142 = .ok (.goto (-104), 3) := by decide +kernel
theorem zd281_145 : decode zxm281.2.1 145 = .ok (.aload_n 0, 1) := by decide +kernel
theorem zd281_146 : decode zxm281.2.1 146 = .ok (.invokevirtual 385, 3) := by decide +kernel
theorem zd281_149 : decode zxm281.2.1 149 = .ok (.iconst 0, 1) := by decide +kernel
theorem zd281_150 : decode zxm281.2.1 150 = .ok (.istore_n 3, 1) := by decide +kernel
theorem zd281_151 : decode zxm281.2.1 151 = .ok (.bipush (-2), 2) := by decide +kernel
theorem zd281_153 : decode zxm281.2.1 153 = .ok (.istore 4, 2) := by decide +kernel
theorem zd281_155 : decode zxm281.2.1 155 = .ok (.iconst 0, 1) := by decide +kernel
theorem zd281_156 : decode zxm281.2.1 156 = .ok (.istore 5, 2) := by decide +kernel
theorem zd281_158 : decode zxm281.2.1 158 = .ok (.iload 5, 2) := by decide +kernel
theorem zd281_160 : decode zxm281.2.1 160 = .ok (.sipush 288, 3) := by decide +kernel
theorem zd281_163 : decode zxm281.2.1 163 = .ok (.if_icmp .ge 55, 3) := by decide +kernel
theorem zd281_166 : decode zxm281.2.1 166 = .ok (.aload_n 0, 1) := by decide +kernel
theorem zd281_167 : decode zxm281.2.1 167 = .ok (.iload 5, 2) := by decide +kernel
theorem zd281_169 : decode zxm281.2.1 169 = .ok (.iload_n 1, 1) := by decide +kernel
theorem zd281_170 : decode zxm281.2.1 170 = .ok (.invokevirtual 392, 3) := by decide +kernel
theorem zd281_173 : decode zxm281.2.1 173 = .ok (.ifCond .eq 39, 3) := by decide +kernel
theorem zd281_176 : decode zxm281.2.1 176 = .ok (.iload_n 2, 1) := by decide +kernel
theorem zd281_177 : decode zxm281.2.1 177 = .ok (.iconst 1, 1) := by decide +kernel
theorem zd281_178 : decode zxm281.2.1 178 = .ok (.if_icmp .le 17, 3) := by decide +kernel
theorem zd281_181 : decode zxm281.2.1 181 = .ok (.aload_n 0, 1) := by decide +kernel
theorem zd281_182 : decode zxm281.2.1 182 = .ok (.getfield 89, 3) := by decide +kernel
theorem zd281_185 : decode zxm281.2.1 185 = .ok (.iload 5, 2) := by decide +kernel
theorem zd281_187 : decode zxm281.2.1 187 = .ok (.iaload, 1) := by decide +kernel
theorem zd281_188 : decode zxm281.2.1 188 = .ok (.iload_n 1, 1) := by decide +kernel
theorem zd281_189 : decode zxm281.2.1 189 = .ok (.if_icmp .eq 6, 3) := by decide +kernel
theorem zd281_192 : decode zxm281.2.1 192 = .ok (.goto 20, 3) := by decide +kernel
theorem zd281_195 : decode zxm281.2.1 195 = .ok (.iload_n 3, 1) := by decide +kernel
theorem zd281_196 : decode zxm281.2.1 196 = .ok (.ifCond .ne 8, 3) := by decide +kernel
theorem zd281_199 : decode zxm281.2.1 199 = .ok (.iload 5, 2) := by decide +kernel
theorem zd281_201 : decode zxm281.2.1 201 = .ok (.goto 5, 3) := by decide +kernel
theorem zd281_204 : decode zxm281.2.1 204 = .ok (.iload 4, 2) := by decide +kernel
theorem zd281_206 : decode zxm281.2.1 206 = .ok (.istore 4, 2) := by decide +kernel
theorem zd281_208 : decode zxm281.2.1 208 = .ok (.iload_n 3, 1) := by decide +kernel
theorem zd281_209 : decode zxm281.2.1 209 = .ok (.iconst 1, 1) := by decide +kernel
theorem zd281_210 : decode zxm281.2.1 210 = .ok (.iadd, 1) := by decide +kernel
theorem zd281_211 : decode zxm281.2.1 211 = .ok (.istore_n 3, 1) := by decide +kernel
theorem zd281_212 : decode zxm281.2.1 212 = .ok (.iinc 5 1, 3) := by decide +kernel
theorem zd281_215 : decode zxm281.2.1 215 = .ok (.goto (-57), 3) := by decide +kernel
theorem zd281_218 : decode zxm281.2.1 218 = .ok (.iload_n 2, 1) := by decide +kernel
theorem zd281_219 : decode zxm281.2.1 219 = .ok (.iconst 2, 1) := by decide +kernel
theorem zd281_220 : decode zxm281.2.1 220 = .ok (.irem, 1) := by decide +kernel
theorem zd281_221 : decode zxm281.2.1 221 = .ok (.ifCond .ne 7, 3) := by decide +kernel
theorem zd281_224 : decode zxm281.2.1 224 = .ok (.iload_n 3, 1) := by decide +kernel
theorem zd281_225 : decode zxm281.2.1 225 = .ok (.goto 5, 3) := by decide +kernel
theorem zd281_228 : decode zxm281.2.1 228 = .ok (.iload 4, 2) := by decide +kernel
theorem zd281_230 : decode zxm281.2.1 230 = .ok (.ireturn, 1) := by decide +kernel
theorem zt_M_known {x1 : Int} {x2 : Int} {f0 : Int} {f1 : Int} {g0 : (Int → Int)} {g1 : (Int → Int)} {g2 : (Int → Int)} {g3 : (Int → Int)} {g4 : (Int → Int)} {g5 : (Int → Int)} {g6 : (Int → Int)} {g7 : (Int → Int)} {g8 : (Int → Int)} {g9 : (Int → Int)} {g10 : (Int → Int)} {g11 : (Int → Int)} {o : Int × Int × (Int → Int) × (Int → Int) × (Int → Int) × (Int → Int) × (Int → Int) × (Int → Int)} (h : zf_M_known x1 x2 f0 f1 g0 g1 g2 g3 g4 g5 g6 g7 g8 g9 g10 g11 = some o) : zv_Fn z_TB z_cl z_KX zy_M_known zxm281 (7, 420) [.inr 0, .inl x1, .inl x2] [.inl f0, .inl f1] [g0, g1, g2, g3, g4, g5, g6, g7, g8, g9, g10, g11] (some o.1) [.inl o.2.1, .inl f1] [g0, o.2.2.1, g2, g3, o.2.2.2.1, g5, g6, g7, o.2.2.2.2.1, o.2.2.2.2.2.1, o.2.2.2.2.2.2.1, o.2.2.2.2.2.2.2] := zv_meth (K := (z_KF13, z_KC13, z_KL13, z_KT13, [], [], [], none)) (FT := z_FT) (MT := z_MT) (n := 3) zxp281 (z_ks13 _ (fun _ h => List.mem_cons_of_mem _ h) _ _ _ _ (fun j r h _ => by cases h)) (fun _ _ => zs_KX_p) zyw_M_known (fun va F G h => by obtain ⟨rfl, _⟩ := h; rfl) (fun va F G h => by obtain ⟨rfl, _⟩ := h; rfl) rfl fun good va F G hB hret hvret hP => by
  obtain ⟨rfl, rfl, rfl⟩ := hP
  have l0 : ∀ (n : Nat) (x1 : Int) (x2 : Int) (x3 : Int) (f0 : Int) (g1 : (Int → Int)) (g4 : (Int → Int)) (g8 : (Int → Int)) (g9 : (Int → Int)) (g10 : (Int → Int)) (g11 : (Int → Int)) (q : (Int → Int)), zf_M_known_l0 x1 g0 n x3 g1 = some q → (good 145 [.inr 0, .inl x1, .inl x2, .inr 1000, .inr 1000, .inr 1000, .inr 1000] [] [.inl f0, .inl f1] [g0, q, g2, g3, g4, g5, g6, g7, g8, g9, g10, g11]) → good 38 [.inr 0, .inl x1, .inl x2, .inl x3, .inr 1000, .inr 1000, .inr 1000] [] [.inl f0, .inl f1] [g0, g1, g2, g3, g4, g5, g6, g7, g8, g9, g10, g11] := by
    intro n
    induction n with
    | zero => intro x1 x2 x3 f0 g1 g4 g8 g9 g10 g11 q h; exact absurd (show none = some q from h) (fun h => by cases h)
    | succ n ih =>
      intro x1 x2 x3 f0 g1 g4 g8 g9 g10 g11 q h hK
      replace h : zf_M_known_l0_b x1 g0 (zf_M_known_l0 x1 g0 n) x3 g1 = some q := h
      unfold zf_M_known_l0_b at h
      refine zv_ild hB zd281_38 rfl rfl ?_
      refine zv_ild hB zd281_39 rfl rfl ?_
      refine zv_cge hB zd281_40 rfl (fun hc6 => ?_) (fun hc6 => ?_)
      · rw [if_neg (Int.not_lt.mpr hc6)] at h
        have hq := Option.some.inj h
        subst hq
        refine zv_wk hB (L' := [.inr 0, .inl x1, .inl x2, .inr 1000, .inr 1000, .inr 1000, .inr 1000]) (F' := [.inl f0, .inl f1]) ⟨fun _ => rfl, fun _ => rfl, fun _ => rfl, fun (h : zv_is (.inr 1000)) => (Nat.lt_irrefl 1000 h).elim, fun (h : zv_is (.inr 1000)) => (Nat.lt_irrefl 1000 h).elim, fun (h : zv_is (.inr 1000)) => (Nat.lt_irrefl 1000 h).elim, fun (h : zv_is (.inr 1000)) => (Nat.lt_irrefl 1000 h).elim, trivial⟩ ⟨fun _ => rfl, fun _ => rfl, trivial⟩ ?_
        exact hK
      · rw [if_pos hc6] at h
        refine zv_ald hB zd281_43 rfl rfl rfl ?_
        refine zv_getr hB zd281_44 rfl ?_
        refine zv_con hB zd281_47 rfl ?_
        refine zv_ild hB zd281_48 rfl rfl ?_
        refine zv_mulw hB zd281_49 ?_
        obtain ⟨c7, h⟩ := zi_if h
        refine zv_bald hB zd281_50 rfl rfl (zi_ix_ok c7).1 (zi_ix_ok c7).2 (fun _ _ => ?_)
        refine zv_con hB zd281_51 rfl ?_
        refine zv_andw hB zd281_54 ?_
        refine zv_ist hB zd281_55 rfl rfl rfl ?_
        refine zv_ald hB zd281_57 rfl rfl rfl ?_
        refine zv_getr hB zd281_58 rfl ?_
        refine zv_con hB zd281_61 rfl ?_
        refine zv_ild hB zd281_62 rfl rfl ?_
        refine zv_mulw hB zd281_63 ?_
        refine zv_con hB zd281_64 rfl ?_
        refine zv_addw hB zd281_65 ?_
        obtain ⟨c8, h⟩ := zi_if h
        refine zv_bald hB zd281_66 rfl rfl (zi_ix_ok c8).1 (zi_ix_ok c8).2 (fun _ _ => ?_)
        refine zv_con hB zd281_67 rfl ?_
        refine zv_andw hB zd281_70 ?_
        refine zv_ist hB zd281_71 rfl rfl rfl ?_
        refine zv_ald hB zd281_73 rfl rfl rfl ?_
        refine zv_getr hB zd281_74 rfl ?_
        refine zv_con hB zd281_77 rfl ?_
        refine zv_ild hB zd281_78 rfl rfl ?_
        refine zv_mulw hB zd281_79 ?_
        refine zv_con hB zd281_80 rfl ?_
        refine zv_addw hB zd281_81 ?_
        obtain ⟨c9, h⟩ := zi_if h
        refine zv_bald hB zd281_82 rfl rfl (zi_ix_ok c9).1 (zi_ix_ok c9).2 (fun _ _ => ?_)
        refine zv_con hB zd281_83 rfl ?_
        refine zv_andw hB zd281_86 ?_
        refine zv_ist hB zd281_87 rfl rfl rfl ?_
        refine zv_ald hB zd281_89 rfl rfl rfl ?_
        refine zv_getr hB zd281_90 rfl ?_
        refine zv_ild hB zd281_93 rfl rfl ?_
        refine zv_ild hB zd281_94 rfl rfl ?_
        refine zv_con hB zd281_96 rfl ?_
        refine zv_cgt hB zd281_98 rfl (fun hc10 => ?_) (fun hc10 => ?_)
        · rw [if_pos hc10] at h
          refine zv_con (n := 1000000000) hB zd281_115 (by decide +kernel) ?_
          refine zv_goto hB zd281_118 rfl ?_
          obtain ⟨r11, hr11, h⟩ := zi_bind h
          refine zv_cs hB (zv_emq (va2 := [.inr 2, .inl x3, .inl 1000000000]) (F := [.inl f0, .inl f1]) (F' := [.inl f0, .inl f1]) (G := [g0, g1, g2, g3, g4, g5, g6, g7, g8, g9, g10, g11]) (G' := [g0, r11, g2, g3, g4, g5, g6, g7, g8, g9, g10, g11]) (ρ := [2]) (φ := []) (ψ := [1]) [none, none] [none, some 0, none, none, none, none, none, none, none, none, none, none] zyw_M_puts_12 zyw_M_known zye_M_known (by decide +kernel) (zt_M_puts_12 hr11) trivial ⟨rfl, trivial⟩ rfl rfl rfl rfl rfl rfl rfl) zd281_136 zxt278 rfl (by decide) (by decide) rfl ?_
          refine zv_iincw hB zd281_139 rfl rfl ?_
          refine zv_goto hB zd281_142 rfl ?_
          refine zv_wk hB (L' := [.inr 0, .inl x1, .inl x2, .inl (zi_w (x3 + 1)), .inr 1000, .inr 1000, .inr 1000]) (F' := [.inl f0, .inl f1]) ⟨fun _ => rfl, fun _ => rfl, fun _ => rfl, fun _ => rfl, fun (h : zv_is (.inr 1000)) => (Nat.lt_irrefl 1000 h).elim, fun (h : zv_is (.inr 1000)) => (Nat.lt_irrefl 1000 h).elim, fun (h : zv_is (.inr 1000)) => (Nat.lt_irrefl 1000 h).elim, trivial⟩ ⟨fun _ => rfl, fun _ => rfl, trivial⟩ ?_
          exact ih _ _ _ _ _ _ _ _ _ _ q h hK
        · rw [if_neg (Int.not_lt.mpr hc10)] at h
          refine zv_ild hB zd281_101 rfl rfl ?_
          refine zv_con hB zd281_103 rfl ?_
          refine zv_cgt hB zd281_105 rfl (fun hc12 => ?_) (fun hc12 => ?_)
          · rw [if_pos hc12] at h
            refine zv_con (n := 1000000000) hB zd281_115 (by decide +kernel) ?_
            refine zv_goto hB zd281_118 rfl ?_
            obtain ⟨r13, hr13, h⟩ := zi_bind h
            refine zv_cs hB (zv_emq (va2 := [.inr 2, .inl x3, .inl 1000000000]) (F := [.inl f0, .inl f1]) (F' := [.inl f0, .inl f1]) (G := [g0, g1, g2, g3, g4, g5, g6, g7, g8, g9, g10, g11]) (G' := [g0, r13, g2, g3, g4, g5, g6, g7, g8, g9, g10, g11]) (ρ := [2]) (φ := []) (ψ := [1]) [none, none] [none, some 0, none, none, none, none, none, none, none, none, none, none] zyw_M_puts_12 zyw_M_known zye_M_known (by decide +kernel) (zt_M_puts_12 hr13) trivial ⟨rfl, trivial⟩ rfl rfl rfl rfl rfl rfl rfl) zd281_136 zxt278 rfl (by decide) (by decide) rfl ?_
            refine zv_iincw hB zd281_139 rfl rfl ?_
            refine zv_goto hB zd281_142 rfl ?_
            refine zv_wk hB (L' := [.inr 0, .inl x1, .inl x2, .inl (zi_w (x3 + 1)), .inr 1000, .inr 1000, .inr 1000]) (F' := [.inl f0, .inl f1]) ⟨fun _ => rfl, fun _ => rfl, fun _ => rfl, fun _ => rfl, fun (h : zv_is (.inr 1000)) => (Nat.lt_irrefl 1000 h).elim, fun (h : zv_is (.inr 1000)) => (Nat.lt_irrefl 1000 h).elim, fun (h : zv_is (.inr 1000)) => (Nat.lt_irrefl 1000 h).elim, trivial⟩ ⟨fun _ => rfl, fun _ => rfl, trivial⟩ ?_
            exact ih _ _ _ _ _ _ _ _ _ _ q h hK
          · rw [if_neg (Int.not_lt.mpr hc12)] at h
            refine zv_ild hB zd281_108 rfl rfl ?_
            refine zv_con hB zd281_110 rfl ?_
            refine zv_cle hB zd281_112 rfl (fun hc14 => ?_) (fun hc14 => ?_)
            · rw [if_neg (Int.not_lt.mpr hc14)] at h
              refine zv_con hB zd281_121 rfl ?_
              refine zv_ild hB zd281_124 rfl rfl ?_
              refine zv_mulw hB zd281_126 ?_
              refine zv_con hB zd281_127 rfl ?_
              refine zv_ild hB zd281_129 rfl rfl ?_
              refine zv_mulw hB zd281_131 ?_
              refine zv_addw hB zd281_132 ?_
              refine zv_ild hB zd281_133 rfl rfl ?_
              refine zv_addw hB zd281_135 ?_
              obtain ⟨r15, hr15, h⟩ := zi_bind h
              refine zv_cs hB (zv_emq (va2 := [.inr 2, .inl x3, .inl (zi_w ((zi_w ((zi_w (1000 * (zi_and (g0 (zi_w (3 * x3))) 255))) + (zi_w (10 * (zi_and (g0 (zi_w ((zi_w (3 * x3)) + 1))) 255))))) + (zi_and (g0 (zi_w ((zi_w (3 * x3)) + 2))) 255)))]) (F := [.inl f0, .inl f1]) (F' := [.inl f0, .inl f1]) (G := [g0, g1, g2, g3, g4, g5, g6, g7, g8, g9, g10, g11]) (G' := [g0, r15, g2, g3, g4, g5, g6, g7, g8, g9, g10, g11]) (ρ := [2]) (φ := []) (ψ := [1]) [none, none] [none, some 0, none, none, none, none, none, none, none, none, none, none] zyw_M_puts_12 zyw_M_known zye_M_known (by decide +kernel) (zt_M_puts_12 hr15) trivial ⟨rfl, trivial⟩ rfl rfl rfl rfl rfl rfl rfl) zd281_136 zxt278 rfl (by decide) (by decide) rfl ?_
              refine zv_iincw hB zd281_139 rfl rfl ?_
              refine zv_goto hB zd281_142 rfl ?_
              refine zv_wk hB (L' := [.inr 0, .inl x1, .inl x2, .inl (zi_w (x3 + 1)), .inr 1000, .inr 1000, .inr 1000]) (F' := [.inl f0, .inl f1]) ⟨fun _ => rfl, fun _ => rfl, fun _ => rfl, fun _ => rfl, fun (h : zv_is (.inr 1000)) => (Nat.lt_irrefl 1000 h).elim, fun (h : zv_is (.inr 1000)) => (Nat.lt_irrefl 1000 h).elim, fun (h : zv_is (.inr 1000)) => (Nat.lt_irrefl 1000 h).elim, trivial⟩ ⟨fun _ => rfl, fun _ => rfl, trivial⟩ ?_
              exact ih _ _ _ _ _ _ _ _ _ _ q h hK
            · rw [if_pos hc14] at h
              refine zv_con (n := 1000000000) hB zd281_115 (by decide +kernel) ?_
              refine zv_goto hB zd281_118 rfl ?_
              obtain ⟨r16, hr16, h⟩ := zi_bind h
              refine zv_cs hB (zv_emq (va2 := [.inr 2, .inl x3, .inl 1000000000]) (F := [.inl f0, .inl f1]) (F' := [.inl f0, .inl f1]) (G := [g0, g1, g2, g3, g4, g5, g6, g7, g8, g9, g10, g11]) (G' := [g0, r16, g2, g3, g4, g5, g6, g7, g8, g9, g10, g11]) (ρ := [2]) (φ := []) (ψ := [1]) [none, none] [none, some 0, none, none, none, none, none, none, none, none, none, none] zyw_M_puts_12 zyw_M_known zye_M_known (by decide +kernel) (zt_M_puts_12 hr16) trivial ⟨rfl, trivial⟩ rfl rfl rfl rfl rfl rfl rfl) zd281_136 zxt278 rfl (by decide) (by decide) rfl ?_
              refine zv_iincw hB zd281_139 rfl rfl ?_
              refine zv_goto hB zd281_142 rfl ?_
              refine zv_wk hB (L' := [.inr 0, .inl x1, .inl x2, .inl (zi_w (x3 + 1)), .inr 1000, .inr 1000, .inr 1000]) (F' := [.inl f0, .inl f1]) ⟨fun _ => rfl, fun _ => rfl, fun _ => rfl, fun _ => rfl, fun (h : zv_is (.inr 1000)) => (Nat.lt_irrefl 1000 h).elim, fun (h : zv_is (.inr 1000)) => (Nat.lt_irrefl 1000 h).elim, fun (h : zv_is (.inr 1000)) => (Nat.lt_irrefl 1000 h).elim, trivial⟩ ⟨fun _ => rfl, fun _ => rfl, trivial⟩ ?_
              exact ih _ _ _ _ _ _ _ _ _ _ q h hK
  have l1 : ∀ (n : Nat) (x1 : Int) (x2 : Int) (x3 : Int) (x4 : Int) (x5 : Int) (f0 : Int) (g1 : (Int → Int)) (g4 : (Int → Int)) (g8 : (Int → Int)) (g9 : (Int → Int)) (g10 : (Int → Int)) (g11 : (Int → Int)) (q : Int × Int), zf_M_known_l1 x1 x2 g1 g10 g11 n x3 x4 x5 = some q → (good 218 [.inr 1000, .inr 1000, .inl x2, .inl q.1, .inl q.2, .inr 1000, .inr 1000] [] [.inl f0, .inl f1] [g0, g1, g2, g3, g4, g5, g6, g7, g8, g9, g10, g11]) → good 158 [.inr 0, .inl x1, .inl x2, .inl x3, .inl x4, .inl x5, .inr 1000] [] [.inl f0, .inl f1] [g0, g1, g2, g3, g4, g5, g6, g7, g8, g9, g10, g11] := by
    intro n
    induction n with
    | zero => intro x1 x2 x3 x4 x5 f0 g1 g4 g8 g9 g10 g11 q h; exact absurd (show none = some q from h) (fun h => by cases h)
    | succ n ih =>
      intro x1 x2 x3 x4 x5 f0 g1 g4 g8 g9 g10 g11 q h hK
      replace h : zf_M_known_l1_b x1 x2 g1 g10 g11 (zf_M_known_l1 x1 x2 g1 g10 g11 n) x3 x4 x5 = some q := h
      unfold zf_M_known_l1_b at h
      refine zv_ild hB zd281_158 rfl rfl ?_
      refine zv_con hB zd281_160 rfl ?_
      refine zv_cge hB zd281_163 rfl (fun hc19 => ?_) (fun hc19 => ?_)
      · rw [if_neg (Int.not_lt.mpr hc19)] at h
        have hq := Option.some.inj h
        subst hq
        refine zv_wk hB (L' := [.inr 1000, .inr 1000, .inl x2, .inl x3, .inl x4, .inr 1000, .inr 1000]) (F' := [.inl f0, .inl f1]) ⟨fun (h : zv_is (.inr 1000)) => (Nat.lt_irrefl 1000 h).elim, fun (h : zv_is (.inr 1000)) => (Nat.lt_irrefl 1000 h).elim, fun _ => rfl, fun _ => rfl, fun _ => rfl, fun (h : zv_is (.inr 1000)) => (Nat.lt_irrefl 1000 h).elim, fun (h : zv_is (.inr 1000)) => (Nat.lt_irrefl 1000 h).elim, trivial⟩ ⟨fun _ => rfl, fun _ => rfl, trivial⟩ ?_
        exact hK
      · rw [if_pos hc19] at h
        refine zv_ald hB zd281_166 rfl rfl rfl ?_
        refine zv_ild hB zd281_167 rfl rfl ?_
        refine zv_ild hB zd281_169 rfl rfl ?_
        obtain ⟨r20, hr20, h⟩ := zi_bind h
        refine zv_cv hB (zv_emq (va2 := [.inr 0, .inl x5, .inl x1]) (F := [.inl f0, .inl f1]) (F' := [.inl f0, .inl f1]) (G := [g0, g1, g2, g3, g4, g5, g6, g7, g8, g9, g10, g11]) (G' := [g0, g1, g2, g3, g4, g5, g6, g7, g8, g9, g10, g11]) (ρ := [0, 11, 12, 2]) (φ := []) (ψ := [10, 11, 1]) [none, none] [none, some 2, none, none, none, none, none, none, none, none, some 0, some 1] zyw_M_hasParts zyw_M_known zye_M_known (by decide +kernel) (zt_M_hasParts hr20) trivial ⟨rfl, rfl, rfl, trivial⟩ rfl rfl rfl rfl rfl rfl rfl) zd281_170 zxt282 rfl (by decide) (by decide) rfl ?_
        refine zv_zeq hB zd281_173 rfl (fun hc21 => ?_) (fun hc21 => ?_)
        · rw [if_pos hc21] at h
          refine zv_iincw hB zd281_212 rfl rfl ?_
          refine zv_goto hB zd281_215 rfl ?_
          exact ih _ _ _ _ _ _ _ _ _ _ _ _ q h hK
        · rw [if_neg hc21] at h
          refine zv_ild hB zd281_176 rfl rfl ?_
          refine zv_con hB zd281_177 rfl ?_
          refine zv_cle hB zd281_178 rfl (fun hc22 => ?_) (fun hc22 => ?_)
          · rw [if_neg (Int.not_lt.mpr hc22)] at h
            refine zv_ild hB zd281_195 rfl rfl ?_
            refine zv_zne hB zd281_196 rfl (fun hc23 => ?_) (fun hc23 => ?_)
            · rw [if_neg hc23] at h
              refine zv_ild hB zd281_204 rfl rfl ?_
              refine zv_ist hB zd281_206 rfl rfl rfl ?_
              refine zv_ild hB zd281_208 rfl rfl ?_
              refine zv_con hB zd281_209 rfl ?_
              refine zv_addw hB zd281_210 ?_
              refine zv_ist hB zd281_211 rfl rfl rfl ?_
              refine zv_iincw hB zd281_212 rfl rfl ?_
              refine zv_goto hB zd281_215 rfl ?_
              exact ih _ _ _ _ _ _ _ _ _ _ _ _ q h hK
            · rw [if_pos hc23] at h
              refine zv_ild hB zd281_199 rfl rfl ?_
              refine zv_goto hB zd281_201 rfl ?_
              refine zv_ist hB zd281_206 rfl rfl rfl ?_
              refine zv_ild hB zd281_208 rfl rfl ?_
              refine zv_con hB zd281_209 rfl ?_
              refine zv_addw hB zd281_210 ?_
              refine zv_ist hB zd281_211 rfl rfl rfl ?_
              refine zv_iincw hB zd281_212 rfl rfl ?_
              refine zv_goto hB zd281_215 rfl ?_
              exact ih _ _ _ _ _ _ _ _ _ _ _ _ q h hK
          · rw [if_pos hc22] at h
            refine zv_ald hB zd281_181 rfl rfl rfl ?_
            refine zv_getr hB zd281_182 rfl ?_
            refine zv_ild hB zd281_185 rfl rfl ?_
            obtain ⟨c24, h⟩ := zi_if h
            refine zv_iald hB zd281_187 rfl rfl (zi_ix_ok c24).1 (zi_ix_ok c24).2 (fun _ _ => ?_)
            refine zv_ild hB zd281_188 rfl rfl ?_
            refine zv_ceq hB zd281_189 rfl (fun hc25 => ?_) (fun hc25 => ?_)
            · rw [if_pos hc25] at h
              refine zv_ild hB zd281_195 rfl rfl ?_
              refine zv_zne hB zd281_196 rfl (fun hc26 => ?_) (fun hc26 => ?_)
              · rw [if_neg hc26] at h
                refine zv_ild hB zd281_204 rfl rfl ?_
                refine zv_ist hB zd281_206 rfl rfl rfl ?_
                refine zv_ild hB zd281_208 rfl rfl ?_
                refine zv_con hB zd281_209 rfl ?_
                refine zv_addw hB zd281_210 ?_
                refine zv_ist hB zd281_211 rfl rfl rfl ?_
                refine zv_iincw hB zd281_212 rfl rfl ?_
                refine zv_goto hB zd281_215 rfl ?_
                exact ih _ _ _ _ _ _ _ _ _ _ _ _ q h hK
              · rw [if_pos hc26] at h
                refine zv_ild hB zd281_199 rfl rfl ?_
                refine zv_goto hB zd281_201 rfl ?_
                refine zv_ist hB zd281_206 rfl rfl rfl ?_
                refine zv_ild hB zd281_208 rfl rfl ?_
                refine zv_con hB zd281_209 rfl ?_
                refine zv_addw hB zd281_210 ?_
                refine zv_ist hB zd281_211 rfl rfl rfl ?_
                refine zv_iincw hB zd281_212 rfl rfl ?_
                refine zv_goto hB zd281_215 rfl ?_
                exact ih _ _ _ _ _ _ _ _ _ _ _ _ q h hK
            · rw [if_neg hc25] at h
              refine zv_goto hB zd281_192 rfl ?_
              refine zv_iincw hB zd281_212 rfl rfl ?_
              refine zv_goto hB zd281_215 rfl ?_
              exact ih _ _ _ _ _ _ _ _ _ _ _ _ q h hK
  unfold zf_M_known at h
  refine zv_ild hB zd281_0 rfl rfl ?_
  refine zv_con hB zd281_1 rfl ?_
  refine zv_con hB zd281_2 rfl ?_
  obtain ⟨r1, hr1, h⟩ := zi_bind h
  refine zv_cs hB (zv_emq (va2 := [.inl x1, .inl 1, .inl 12]) (F := [.inl f0, .inl f1]) (F' := [.inl f0, .inl f1]) (G := [g0, g1, g2, g3, g4, g5, g6, g7, g8, g9, g10, g11]) (G' := [g0, g1, g2, g3, g4, g5, g6, g7, g8, g9, g10, g11]) (ρ := []) (φ := []) (ψ := []) [none, none] [none, none, none, none, none, none, none, none, none, none, none, none] zyw_M_in zyw_M_known zye_M_known (by decide +kernel) (zt_M_in hr1) trivial trivial rfl rfl rfl rfl rfl rfl rfl) zd281_4 zxt200 rfl (by decide) (by decide) rfl ?_
  refine zv_zeq hB zd281_7 rfl (fun hc2 => ?_) (fun hc2 => ?_)
  · rw [if_pos hc2] at h
    refine zv_con hB zd281_29 rfl ?_
    have hw := Option.some.inj h
    subst hw
    exact hret _ _ _ _ _ zd281_30 (by trivial) ⟨rfl, rfl, rfl⟩
  · rw [if_neg hc2] at h
    refine zv_ild hB zd281_10 rfl rfl ?_
    refine zv_con hB zd281_11 rfl ?_
    refine zv_con hB zd281_12 rfl ?_
    obtain ⟨r3, hr3, h⟩ := zi_bind h
    refine zv_cs hB (zv_emq (va2 := [.inl x2, .inl 0, .inl 3]) (F := [.inl f0, .inl f1]) (F' := [.inl f0, .inl f1]) (G := [g0, g1, g2, g3, g4, g5, g6, g7, g8, g9, g10, g11]) (G' := [g0, g1, g2, g3, g4, g5, g6, g7, g8, g9, g10, g11]) (ρ := []) (φ := []) (ψ := []) [none, none] [none, none, none, none, none, none, none, none, none, none, none, none] zyw_M_in zyw_M_known zye_M_known (by decide +kernel) (zt_M_in hr3) trivial trivial rfl rfl rfl rfl rfl rfl rfl) zd281_13 zxt200 rfl (by decide) (by decide) rfl ?_
    refine zv_zeq hB zd281_16 rfl (fun hc4 => ?_) (fun hc4 => ?_)
    · rw [if_pos hc4] at h
      refine zv_con hB zd281_29 rfl ?_
      have hw := Option.some.inj h
      subst hw
      exact hret _ _ _ _ _ zd281_30 (by trivial) ⟨rfl, rfl, rfl⟩
    · rw [if_neg hc4] at h
      refine zv_con hB zd281_19 rfl ?_
      refine zv_ild hB zd281_20 rfl rfl ?_
      refine zv_mulw hB zd281_21 ?_
      refine zv_ald hB zd281_22 rfl rfl rfl ?_
      refine zv_getf hB zd281_23 rfl rfl (fun _ _ => ?_)
      refine zv_cle hB zd281_26 rfl (fun hc5 => ?_) (fun hc5 => ?_)
      · rw [if_neg (Int.not_lt.mpr hc5)] at h
        refine zv_ald hB zd281_31 rfl rfl rfl ?_
        refine zv_con hB zd281_32 rfl ?_
        refine zv_putf hB zd281_33 rfl rfl (fun h => by cases h) rfl ?_
        refine zv_con hB zd281_36 rfl ?_
        refine zv_ist hB zd281_37 rfl rfl rfl ?_
        obtain ⟨q17, hq17, h⟩ := zi_bind h
        refine l0 _ _ _ _ _ _ _ _ _ _ _ q17 hq17 ?_
        show good 145 [.inr 0, .inl x1, .inl x2, .inr 1000, .inr 1000, .inr 1000, .inr 1000] [] [.inl 0, .inl f1] [g0, q17, g2, g3, g4, g5, g6, g7, g8, g9, g10, g11]
        refine zv_ald hB zd281_145 rfl rfl rfl ?_
        obtain ⟨r18, hr18, h⟩ := zi_bind h
        refine zv_cv hB (zv_emq (va2 := [.inr 0]) (F := [.inl 0, .inl f1]) (F' := [.inl 0, .inl f1]) (G := [g0, q17, g2, g3, g4, g5, g6, g7, g8, g9, g10, g11]) (G' := [g0, q17, g2, g3, r18.1, g5, g6, g7, r18.2.1, r18.2.2.1, r18.2.2.2.1, r18.2.2.2.2]) (ρ := [0, 3, 4, 5, 6, 7, 8, 9, 10, 11, 12]) (φ := [1]) (ψ := [2, 3, 4, 5, 6, 7, 8, 9, 10, 11]) [none, some 0] [none, none, some 0, some 1, some 2, some 3, some 4, some 5, some 6, some 7, some 8, some 9] zyw_M_laysPatches zyw_M_known zye_M_known (by decide +kernel) (zt_M_laysPatches hr18) ⟨⟨_, rfl, fun _ => rfl⟩, trivial⟩ ⟨rfl, rfl, rfl, rfl, rfl, rfl, rfl, rfl, rfl, rfl, trivial⟩ rfl rfl rfl rfl rfl rfl rfl) zd281_146 zxt275 rfl (by decide) (by decide) rfl ?_
        refine zv_con hB zd281_149 rfl ?_
        refine zv_ist hB zd281_150 rfl rfl rfl ?_
        refine zv_con hB zd281_151 rfl ?_
        refine zv_ist hB zd281_153 rfl rfl rfl ?_
        refine zv_con hB zd281_155 rfl ?_
        refine zv_ist hB zd281_156 rfl rfl rfl ?_
        obtain ⟨q27, hq27, h⟩ := zi_bind h
        refine l1 _ _ _ _ _ _ _ _ _ _ _ _ _ q27 hq27 ?_
        show good 218 [.inr 1000, .inr 1000, .inl x2, .inl q27.1, .inl q27.2, .inr 1000, .inr 1000] [] [.inl 0, .inl f1] [g0, q17, g2, g3, r18.1, g5, g6, g7, r18.2.1, r18.2.2.1, r18.2.2.2.1, r18.2.2.2.2]
        refine zv_ild hB zd281_218 rfl rfl ?_
        refine zv_con hB zd281_219 rfl ?_
        refine zv_remw hB zd281_220 (by decide) ?_
        refine zv_zne hB zd281_221 rfl (fun hc28 => ?_) (fun hc28 => ?_)
        · rw [if_neg hc28] at h
          refine zv_ild hB zd281_228 rfl rfl ?_
          have hw := Option.some.inj h
          subst hw
          exact hret _ _ _ _ _ zd281_230 (by trivial) ⟨rfl, rfl, rfl⟩
        · rw [if_pos hc28] at h
          refine zv_ild hB zd281_224 rfl rfl ?_
          refine zv_goto hB zd281_225 rfl ?_
          have hw := Option.some.inj h
          subst hw
          exact hret _ _ _ _ _ zd281_230 (by trivial) ⟨rfl, rfl, rfl⟩
      · rw [if_pos hc5] at h
        refine zv_con hB zd281_29 rfl ?_
        have hw := Option.some.inj h
        subst hw
        exact hret _ _ _ _ _ zd281_30 (by trivial) ⟨rfl, rfl, rfl⟩
/-! M_takesPlaces (I)Z -/
-- names: 0 StarTalesModel('arg', 0), 1 (1, 220)(0, 12, 3), 2 (0, 8)(0, 12, 46)
-- fields: ; arrays: g0 = 1, g1 = 2; out: [('ret', None), ('g', 1)]
abbrev zy_M_takesPlaces : zNL := (3, [(0, 12)], [], [(0, 12, 3, 1), (0, 12, 46, 2)], [(1, 1, 220, 0), (2, 0, 8, 1)])
theorem zyw_M_takesPlaces : zv_wf zy_M_takesPlaces = true := by decide +kernel
theorem zye_M_takesPlaces : zv_ek2 zy_M_takesPlaces = true := by decide +kernel
def zf_M_takesPlaces_l1_b (x2 : Int) (g1 : (Int → Int)) (rec : Int → Option (((Unit) ⊕ (Int × (Int → Int))))) (x5 : Int) : Option (((Unit) ⊕ (Int × (Int → Int)))) := if x5 < x2 then (cond (zi_ix x5 8) (cond (zi_ix x2 8) (if (g1 x5) = (g1 x2) then (some (.inr (0, g1))) else (rec (zi_w (x5 + 1)))) none) none) else (some (.inl ()))
def zf_M_takesPlaces_l1 (x2 : Int) (g1 : (Int → Int)) : Nat → Int → Option (((Unit) ⊕ (Int × (Int → Int))))
  | 0, _ => none
  | n + 1, x5 => zf_M_takesPlaces_l1_b x2 g1 (zf_M_takesPlaces_l1 x2 g1 n) x5
def zf_M_takesPlaces_l0_b (x1 : Int) (g0 : (Int → Int)) (rec : Int → (Int → Int) → Option ((((Int → Int)) ⊕ (Int × (Int → Int))))) (x2 : Int) (g1 : (Int → Int)) : Option ((((Int → Int)) ⊕ (Int × (Int → Int)))) := if x2 < x1 then (cond (zi_ix (zi_w (2 * x2)) 220) (cond (zi_ix (zi_w ((zi_w (2 * x2)) + 1)) 220) ((zf_M_isPlace (zi_and (g0 (zi_w (2 * x2))) 255) (zi_and (g0 (zi_w ((zi_w (2 * x2)) + 1))) 255)).bind fun r4 => (if r4 = 0 then (some (.inr (0, g1))) else (cond (zi_ix x2 8) ((zf_M_takesPlaces_l1 x2 (zv_up g1 x2 (zi_w ((zi_w (24 * (zi_and (g0 (zi_w ((zi_w (2 * x2)) + 1))) 255))) + (zi_and (g0 (zi_w (2 * x2))) 255)))) zi_fu 0).bind fun q11 => Sum.elim (fun e12 => (rec (zi_w (x2 + 1)) (zv_up g1 x2 (zi_w ((zi_w (24 * (zi_and (g0 (zi_w ((zi_w (2 * x2)) + 1))) 255))) + (zi_and (g0 (zi_w (2 * x2))) 255)))))) (fun w13 => some (.inr w13)) q11) none))) none) none) else (some (.inl g1))
def zf_M_takesPlaces_l0 (x1 : Int) (g0 : (Int → Int)) : Nat → Int → (Int → Int) → Option ((((Int → Int)) ⊕ (Int × (Int → Int))))
  | 0, _, _ => none
  | n + 1, x2, g1 => zf_M_takesPlaces_l0_b x1 g0 (zf_M_takesPlaces_l0 x1 g0 n) x2 g1
def zf_M_takesPlaces (x1 : Int) (g0 : (Int → Int)) (g1 : (Int → Int)) : Option (Int × (Int → Int)) := (zf_M_takesPlaces_l0 x1 g0 zi_fu 0 g1).bind fun q14 => Sum.elim (fun e15 => (some (1, e15))) (fun w16 => some w16) q14
theorem zd284_0 : decode zxm284.2.1 0 = .ok (.iconst 0, 1) := by decide +kernel
theorem zd284_1 : decode zxm284.2.1 1 = .ok (.istore_n 2, 1) := by decide +kernel
theorem zd284_2 : decode zxm284.2.1 2 = .ok (.iload_n 2, 1) := by decide +kernel
theorem zd284_3 : decode zxm284.2.1 3 = .ok (.iload_n 1, 1) := by decide +kernel
theorem zd284_4 : decode zxm284.2.1 4 = .ok (.if_icmp .ge 95, 3) := by decide +kernel
theorem zd284_7 : decode zxm284.2.1 7 = .ok (.aload_n 0, 1) := by decide +kernel
theorem zd284_8 : decode zxm284.2.1 8 = .ok (.getfield 19, 3) := by decide +kernel
theorem zd284_11 : decode zxm284.2.1 11 = .ok (.iconst 2, 1) := by decide +kernel
theorem zd284_12 : decode zxm284.2.1 12 = .ok (.iload_n 2, 1) := by decide +kernel
theorem zd284_13 : decode zxm284.2.1 13 = .ok (.imul, 1) := by decide +kernel
theorem zd284_14 : decode zxm284.2.1 14 = .ok (.baload, 1) := by decide +kernel
theorem zd284_15 : decode zxm284.2.1 15 = .ok (.sipush 255, 3) := by decide +kernel
theorem zd284_18 : decode zxm284.2.1 18 = .ok (.iand, 1) := by decide +kernel
theorem zd284_19 : decode zxm284.2.1 19 = .ok (.istore_n 3, 1) := by decide +kernel
theorem zd284_20 : decode zxm284.2.1 20 = .ok (.aload_n 0, 1) := by decide +kernel
theorem zd284_21 : decode zxm284.2.1 21 = .ok (.getfield 19, 3) := by decide +kernel
theorem zd284_24 : decode zxm284.2.1 24 = .ok (.iconst 2, 1) := by decide +kernel
theorem zd284_25 : decode zxm284.2.1 25 = .ok (.iload_n 2, 1) := by decide +kernel
theorem zd284_26 : decode zxm284.2.1 26 = .ok (.imul, 1) := by decide +kernel
theorem zd284_27 : decode zxm284.2.1 27 = .ok (.iconst 1, 1) := by decide +kernel
theorem zd284_28 : decode zxm284.2.1 28 = .ok (.iadd, 1) := by decide +kernel
theorem zd284_29 : decode zxm284.2.1 29 = .ok (.baload, 1) := by decide +kernel
theorem zd284_30 : decode zxm284.2.1 30 = .ok (.sipush 255, 3) := by decide +kernel
theorem zd284_33 : decode zxm284.2.1 33 = .ok (.iand, 1) := by decide +kernel
theorem zd284_34 : decode zxm284.2.1 34 = .ok (.istore 4, 2) := by decide +kernel
theorem zd284_36 : decode zxm284.2.1 36 = .ok (.iload_n 3, 1) := by decide +kernel
theorem zd284_37 : decode zxm284.2.1 37 = .ok (.iload 4, 2) := by decide +kernel
theorem zd284_39 : decode zxm284.2.1 39 = .ok (.invokestatic 154, 3) := by decide +kernel
theorem zd284_42 : decode zxm284.2.1 42 = .ok (.ifCond .ne 5, 3) := by decide +kernel
theorem zd284_45 : decode zxm284.2.1 45 = .ok (.iconst 0, 1) := by decide +kernel
theorem zd284_46 : decode zxm284.2.1 46 = .ok (.ireturn, 1) := by decide +kernel
theorem zd284_47 : decode zxm284.2.1 47 = .ok (.aload_n 0, 1) := by decide +kernel
theorem zd284_48 : decode zxm284.2.1 48 = .ok (.getfield 98, 3) := by decide +kernel
theorem zd284_51 : decode zxm284.2.1 51 = .ok (.iload_n 2, 1) := by decide +kernel
theorem zd284_52 : decode zxm284.2.1 52 = .ok (.bipush 24, 2) := by decide +kernel
theorem zd284_54 : decode zxm284.2.1 54 = .ok (.iload 4, 2) := by decide +kernel
theorem zd284_56 : decode zxm284.2.1 56 = .ok (.imul, 1) := by decide +kernel
theorem zd284_57 : decode zxm284.2.1 57 = .ok (.iload_n 3, 1) := by decide +kernel
theorem zd284_58 : decode zxm284.2.1 58 = .ok (.iadd, 1) := by decide +kernel
theorem zd284_59 : decode zxm284.2.1 59 = .ok (.iastore, 1) := by decide +kernel
theorem zd284_60 : decode zxm284.2.1 60 = .ok (.iconst 0, 1) := by decide +kernel
theorem zd284_61 : decode zxm284.2.1 61 = .ok (.istore 5, 2) := by decide +kernel
theorem zd284_63 : decode zxm284.2.1 63 = .ok (.iload 5, 2) := by decide +kernel
theorem zd284_65 : decode zxm284.2.1 65 = .ok (.iload_n 2, 1) := by decide +kernel
theorem zd284_66 : decode zxm284.2.1 66 = .ok (.if_icmp .ge 27, 3) := by decide +kernel
theorem zd284_69 : decode zxm284.2.1 69 = .ok (.aload_n 0, 1) := by decide +kernel
theorem zd284_70 : decode zxm284.2.1 70 = .ok (.getfield 98, 3) := by decide +kernel
theorem zd284_73 : decode zxm284.2.1 73 = .ok (.iload 5, 2) := by decide +kernel
theorem zd284_75 : decode zxm284.2.1 75 = .ok (.iaload, 1) := by decide +kernel
theorem zd284_76 : decode zxm284.2.1 76 = .ok (.aload_n 0, 1) := by decide +kernel
theorem zd284_77 : decode zxm284.2.1 77 = .ok (.getfield 98, 3) := by decide +kernel
theorem zd284_80 : decode zxm284.2.1 80 = .ok (.iload_n 2, 1) := by decide +kernel
theorem zd284_81 : decode zxm284.2.1 81 = .ok (.iaload, 1) := by decide +kernel
theorem zd284_82 : decode zxm284.2.1 82 = .ok (.if_icmp .ne 5, 3) := by decide +kernel
theorem zd284_85 : decode zxm284.2.1 85 = .ok (.iconst 0, 1) := by decide +kernel
theorem zd284_86 : decode zxm284.2.1 86 = .ok (.ireturn, 1) := by decide +kernel
theorem zd284_87 : decode zxm284.2.1 87 = .ok (.iinc 5 1, 3) := by decide +kernel
theorem zd284_90 : decode zxm284.2.1 90 = .ok (.goto (-27), 3) := by decide +kernel
theorem zd284_93 : decode zxm284.2.1 93 = .ok (.iinc 2 1, 3) := by decide +kernel
theorem zd284_96 : decode zxm284.2.1 96 = .ok (.goto (-94), 3) := by decide +kernel
theorem zd284_99 : decode zxm284.2.1 99 = .ok (.iconst 1, 1) := by decide +kernel
theorem zd284_100 : decode zxm284.2.1 100 = .ok (.ireturn, 1) := by decide +kernel
theorem zt_M_takesPlaces {x1 : Int} {g0 : (Int → Int)} {g1 : (Int → Int)} {o : Int × (Int → Int)} (h : zf_M_takesPlaces x1 g0 g1 = some o) : zv_Fn z_TB z_cl z_KX zy_M_takesPlaces zxm284 (1, 60) [.inr 0, .inl x1] [] [g0, g1] (some o.1) [] [g0, o.2] := zv_meth (K := (z_KF13, z_KC13, z_KL13, z_KT13, [], [], [], none)) (FT := z_FT) (MT := z_MT) (n := 2) zxp284 (z_ks13 _ (fun _ h => List.mem_cons_of_mem _ h) _ _ _ _ (fun j r h _ => by cases h)) (fun _ _ => zs_KX_p) zyw_M_takesPlaces (fun va F G h => by obtain ⟨rfl, _⟩ := h; rfl) (fun va F G h => by obtain ⟨rfl, _⟩ := h; rfl) rfl fun good va F G hB hret hvret hP => by
  obtain ⟨rfl, rfl, rfl⟩ := hP
  have l1 : ∀ (n : Nat) (x1 : Int) (x2 : Int) (x5 : Int) (g1 : (Int → Int)) (q : ((Unit) ⊕ (Int × (Int → Int)))), zf_M_takesPlaces_l1 x2 g1 n x5 = some q → (Sum.elim (fun e : Unit => good 93 [.inr 0, .inl x1, .inl x2, .inr 1000, .inr 1000, .inr 1000] [] [] [g0, g1]) (fun w : Int × (Int → Int) => w = o) q) → good 63 [.inr 0, .inl x1, .inl x2, .inr 1000, .inr 1000, .inl x5] [] [] [g0, g1] := by
    intro n
    induction n with
    | zero => intro x1 x2 x5 g1 q h; exact absurd (show none = some q from h) (fun h => by cases h)
    | succ n ih =>
      intro x1 x2 x5 g1 q h hK
      replace h : zf_M_takesPlaces_l1_b x2 g1 (zf_M_takesPlaces_l1 x2 g1 n) x5 = some q := h
      unfold zf_M_takesPlaces_l1_b at h
      refine zv_ild hB zd284_63 rfl rfl ?_
      refine zv_ild hB zd284_65 rfl rfl ?_
      refine zv_cge hB zd284_66 rfl (fun hc7 => ?_) (fun hc7 => ?_)
      · rw [if_neg (Int.not_lt.mpr hc7)] at h
        have hq := Option.some.inj h
        subst hq
        refine zv_wk hB (L' := [.inr 0, .inl x1, .inl x2, .inr 1000, .inr 1000, .inr 1000]) (F' := []) ⟨fun _ => rfl, fun _ => rfl, fun _ => rfl, fun (h : zv_is (.inr 1000)) => (Nat.lt_irrefl 1000 h).elim, fun (h : zv_is (.inr 1000)) => (Nat.lt_irrefl 1000 h).elim, fun (h : zv_is (.inr 1000)) => (Nat.lt_irrefl 1000 h).elim, trivial⟩ trivial ?_
        exact hK
      · rw [if_pos hc7] at h
        refine zv_ald hB zd284_69 rfl rfl rfl ?_
        refine zv_getr hB zd284_70 rfl ?_
        refine zv_ild hB zd284_73 rfl rfl ?_
        obtain ⟨c8, h⟩ := zi_if h
        refine zv_iald hB zd284_75 rfl rfl (zi_ix_ok c8).1 (zi_ix_ok c8).2 (fun _ _ => ?_)
        refine zv_ald hB zd284_76 rfl rfl rfl ?_
        refine zv_getr hB zd284_77 rfl ?_
        refine zv_ild hB zd284_80 rfl rfl ?_
        obtain ⟨c9, h⟩ := zi_if h
        refine zv_iald hB zd284_81 rfl rfl (zi_ix_ok c9).1 (zi_ix_ok c9).2 (fun _ _ => ?_)
        refine zv_cne hB zd284_82 rfl (fun hc10 => ?_) (fun hc10 => ?_)
        · rw [if_neg hc10] at h
          refine zv_iincw hB zd284_87 rfl rfl ?_
          refine zv_goto hB zd284_90 rfl ?_
          exact ih _ _ _ _ q h hK
        · rw [if_pos hc10] at h
          refine zv_con hB zd284_85 rfl ?_
          have hw : (0, g1) = o := zi_rk (Option.some.inj h) hK
          subst hw
          exact hret _ _ _ _ _ zd284_86 (by constructor <;> decide) ⟨rfl, rfl, rfl⟩
  have l0 : ∀ (n : Nat) (x1 : Int) (x2 : Int) (g1 : (Int → Int)) (q : (((Int → Int)) ⊕ (Int × (Int → Int)))), zf_M_takesPlaces_l0 x1 g0 n x2 g1 = some q → (Sum.elim (fun e : (Int → Int) => good 99 [.inr 1000, .inr 1000, .inr 1000, .inr 1000, .inr 1000, .inr 1000] [] [] [g0, e]) (fun w : Int × (Int → Int) => w = o) q) → good 2 [.inr 0, .inl x1, .inl x2, .inr 1000, .inr 1000, .inr 1000] [] [] [g0, g1] := by
    intro n
    induction n with
    | zero => intro x1 x2 g1 q h; exact absurd (show none = some q from h) (fun h => by cases h)
    | succ n ih =>
      intro x1 x2 g1 q h hK
      replace h : zf_M_takesPlaces_l0_b x1 g0 (zf_M_takesPlaces_l0 x1 g0 n) x2 g1 = some q := h
      unfold zf_M_takesPlaces_l0_b at h
      refine zv_ild hB zd284_2 rfl rfl ?_
      refine zv_ild hB zd284_3 rfl rfl ?_
      refine zv_cge hB zd284_4 rfl (fun hc1 => ?_) (fun hc1 => ?_)
      · rw [if_neg (Int.not_lt.mpr hc1)] at h
        have hq := Option.some.inj h
        subst hq
        refine zv_wk hB (L' := [.inr 1000, .inr 1000, .inr 1000, .inr 1000, .inr 1000, .inr 1000]) (F' := []) ⟨fun (h : zv_is (.inr 1000)) => (Nat.lt_irrefl 1000 h).elim, fun (h : zv_is (.inr 1000)) => (Nat.lt_irrefl 1000 h).elim, fun (h : zv_is (.inr 1000)) => (Nat.lt_irrefl 1000 h).elim, fun (h : zv_is (.inr 1000)) => (Nat.lt_irrefl 1000 h).elim, fun (h : zv_is (.inr 1000)) => (Nat.lt_irrefl 1000 h).elim, fun (h : zv_is (.inr 1000)) => (Nat.lt_irrefl 1000 h).elim, trivial⟩ trivial ?_
        exact hK
      · rw [if_pos hc1] at h
        refine zv_ald hB zd284_7 rfl rfl rfl ?_
        refine zv_getr hB zd284_8 rfl ?_
        refine zv_con hB zd284_11 rfl ?_
        refine zv_ild hB zd284_12 rfl rfl ?_
        refine zv_mulw hB zd284_13 ?_
        obtain ⟨c2, h⟩ := zi_if h
        refine zv_bald hB zd284_14 rfl rfl (zi_ix_ok c2).1 (zi_ix_ok c2).2 (fun _ _ => ?_)
        refine zv_con hB zd284_15 rfl ?_
        refine zv_andw hB zd284_18 ?_
        refine zv_ist hB zd284_19 rfl rfl rfl ?_
        refine zv_ald hB zd284_20 rfl rfl rfl ?_
        refine zv_getr hB zd284_21 rfl ?_
        refine zv_con hB zd284_24 rfl ?_
        refine zv_ild hB zd284_25 rfl rfl ?_
        refine zv_mulw hB zd284_26 ?_
        refine zv_con hB zd284_27 rfl ?_
        refine zv_addw hB zd284_28 ?_
        obtain ⟨c3, h⟩ := zi_if h
        refine zv_bald hB zd284_29 rfl rfl (zi_ix_ok c3).1 (zi_ix_ok c3).2 (fun _ _ => ?_)
        refine zv_con hB zd284_30 rfl ?_
        refine zv_andw hB zd284_33 ?_
        refine zv_ist hB zd284_34 rfl rfl rfl ?_
        refine zv_ild hB zd284_36 rfl rfl ?_
        refine zv_ild hB zd284_37 rfl rfl ?_
        obtain ⟨r4, hr4, h⟩ := zi_bind h
        refine zv_cs hB (zv_emq (va2 := [.inl (zi_and (g0 (zi_w (2 * x2))) 255), .inl (zi_and (g0 (zi_w ((zi_w (2 * x2)) + 1))) 255)]) (F := []) (F' := []) (G := [g0, g1]) (G' := [g0, g1]) (ρ := []) (φ := []) (ψ := []) [] [none, none] zyw_M_isPlace zyw_M_takesPlaces zye_M_takesPlaces (by decide +kernel) (zt_M_isPlace hr4) trivial trivial rfl rfl rfl rfl rfl rfl rfl) zd284_39 zxt201 rfl (by decide) (by decide) rfl ?_
        refine zv_zne hB zd284_42 rfl (fun hc5 => ?_) (fun hc5 => ?_)
        · rw [if_neg hc5] at h
          refine zv_ald hB zd284_47 rfl rfl rfl ?_
          refine zv_getr hB zd284_48 rfl ?_
          refine zv_ild hB zd284_51 rfl rfl ?_
          refine zv_con hB zd284_52 rfl ?_
          refine zv_ild hB zd284_54 rfl rfl ?_
          refine zv_mulw hB zd284_56 ?_
          refine zv_ild hB zd284_57 rfl rfl ?_
          refine zv_addw hB zd284_58 ?_
          obtain ⟨c6, h⟩ := zi_if h
          refine zv_iast hB zd284_59 rfl rfl (zi_ix_ok c6).1 (zi_ix_ok c6).2 ?_
          refine zv_con hB zd284_60 rfl ?_
          refine zv_ist hB zd284_61 rfl rfl rfl ?_
          obtain ⟨q11, hq11, h⟩ := zi_bind h
          refine zv_wk hB (L' := [.inr 0, .inl x1, .inl x2, .inr 1000, .inr 1000, .inl 0]) (F' := []) ⟨fun _ => rfl, fun _ => rfl, fun _ => rfl, fun (h : zv_is (.inr 1000)) => (Nat.lt_irrefl 1000 h).elim, fun (h : zv_is (.inr 1000)) => (Nat.lt_irrefl 1000 h).elim, fun _ => rfl, trivial⟩ trivial ?_
          refine l1 _ _ _ _ _ q11 hq11 ?_
          rcases q11 with e12 | w13
          · replace h := zi_sl h
            show good 93 [.inr 0, .inl x1, .inl x2, .inr 1000, .inr 1000, .inr 1000] [] [] [g0, (zv_up g1 x2 (zi_w ((zi_w (24 * (zi_and (g0 (zi_w ((zi_w (2 * x2)) + 1))) 255))) + (zi_and (g0 (zi_w (2 * x2))) 255))))]
            refine zv_iincw hB zd284_93 rfl rfl ?_
            refine zv_goto hB zd284_96 rfl ?_
            exact ih _ _ _ q h hK
          · exact zi_rk (Option.some.inj h) hK
        · rw [if_pos hc5] at h
          refine zv_con hB zd284_45 rfl ?_
          have hw : (0, g1) = o := zi_rk (Option.some.inj h) hK
          subst hw
          exact hret _ _ _ _ _ zd284_46 (by constructor <;> decide) ⟨rfl, rfl, rfl⟩
  unfold zf_M_takesPlaces at h
  refine zv_con hB zd284_0 rfl ?_
  refine zv_ist hB zd284_1 rfl rfl rfl ?_
  obtain ⟨q14, hq14, h⟩ := zi_bind h
  refine l0 _ _ _ _ q14 hq14 ?_
  rcases q14 with e15 | w16
  · replace h := zi_sl h
    show good 99 [.inr 1000, .inr 1000, .inr 1000, .inr 1000, .inr 1000, .inr 1000] [] [] [g0, e15]
    refine zv_con hB zd284_99 rfl ?_
    have hw := Option.some.inj h
    subst hw
    exact hret _ _ _ _ _ zd284_100 (by constructor <;> decide) ⟨rfl, rfl, rfl⟩
  · exact Option.some.inj h
end
