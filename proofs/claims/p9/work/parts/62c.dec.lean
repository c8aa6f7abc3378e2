/-! Methods as functions, and that they do what these do. -/
/-! M_looks (I)V -/
-- names: 0 StarTalesModel('arg', 0), 1 (0, 422)(0, 12, 0), 2 (0, 14)(0, 12, 21), 3 (0, 13)(0, 12, 26), 4 (0, 14)(0, 12, 23), 5 (0, 14)(0, 12, 24), 6 (0, 220)(0, 12, 20), 7 (0, 220)(0, 12, 25), 8 (0, 24)(0, 12, 28)
-- fields: f0 = 0.clauses_, f1 = 0.seen0_; arrays: g0 = 1, g1 = 2, g2 = 3, g3 = 4, g4 = 5, g5 = 6, g6 = 7, g7 = 8; out: [('f', 1), ('g', 2), ('g', 6), ('g', 7)]
abbrev zy_M_looks : zNL := (9, [(0, 12)], [(0, 12, 13, 0), (0, 12, 27, 1)], [(0, 12, 0, 1), (0, 12, 21, 2), (0, 12, 26, 3), (0, 12, 23, 4), (0, 12, 24, 5), (0, 12, 20, 6), (0, 12, 25, 7), (0, 12, 28, 8)], [(1, 0, 422, 0), (2, 0, 14, 1), (3, 0, 13, 2), (4, 0, 14, 3), (5, 0, 14, 4), (6, 0, 220, 5), (7, 0, 220, 6), (8, 0, 24, 7)])
theorem zyw_M_looks : zv_wf zy_M_looks = true := by decide +kernel
theorem zye_M_looks : zv_ek2 zy_M_looks = true := by decide +kernel
def zf_M_looks_l0_b (rec : Int → (Int → Int) → Option ((Int → Int))) (x2 : Int) (g7 : (Int → Int)) : Option ((Int → Int)) := if x2 < 24 then (cond (zi_ix x2 24) (rec (zi_w (x2 + 1)) (zv_up g7 x2 0)) none) else (some g7)
def zf_M_looks_l0 : Nat → Int → (Int → Int) → Option ((Int → Int))
  | 0, _, _ => none
  | n + 1, x2, g7 => zf_M_looks_l0_b (zf_M_looks_l0 n) x2 g7
def zf_M_looks_l2_b (x1 : Int) (x2 : Int) (f0 : Int) (f1 : Int) (g0 : (Int → Int)) (g1 : (Int → Int)) (g3 : (Int → Int)) (g4 : (Int → Int)) (g5 : (Int → Int)) (rec : Int → (Int → Int) → (Int → Int) → (Int → Int) → Option ((Int → Int) × (Int → Int) × (Int → Int))) (x3 : Int) (g2 : (Int → Int)) (g6 : (Int → Int)) (g7 : (Int → Int)) : Option ((Int → Int) × (Int → Int) × (Int → Int)) := if x3 < 24 then ((zf_M_has f1 x2).bind fun r7 => (if r7 = 0 then (some (g2, g6, g7)) else ((zf_M_has f1 x3).bind fun r9 => (if r9 = 0 then (rec (zi_w (x3 + 1)) g2 g6 g7) else ((zf_M_isDrawn x1 x2 x3 f0 g2 g0 g1 g3 g4 g5 g6).bind fun r11 => (if r11.1 = 0 then (rec (zi_w (x3 + 1)) r11.2.1 r11.2.2 g7) else (cond (zi_ix x2 24) (cond (zi_ix x3 24) (rec (zi_w (x3 + 1)) r11.2.1 r11.2.2 (zv_up (zv_up g7 x2 (zi_or (g7 x2) (zi_shl 1 x3))) x3 (zi_or ((zv_up g7 x2 (zi_or (g7 x2) (zi_shl 1 x3))) x3) (zi_shl 1 x2)))) none) none))))))) else (some (g2, g6, g7))
def zf_M_looks_l2 (x1 : Int) (x2 : Int) (f0 : Int) (f1 : Int) (g0 : (Int → Int)) (g1 : (Int → Int)) (g3 : (Int → Int)) (g4 : (Int → Int)) (g5 : (Int → Int)) : Nat → Int → (Int → Int) → (Int → Int) → (Int → Int) → Option ((Int → Int) × (Int → Int) × (Int → Int))
  | 0, _, _, _, _ => none
  | n + 1, x3, g2, g6, g7 => zf_M_looks_l2_b x1 x2 f0 f1 g0 g1 g3 g4 g5 (zf_M_looks_l2 x1 x2 f0 f1 g0 g1 g3 g4 g5 n) x3 g2 g6 g7
def zf_M_looks_l1_b (x1 : Int) (f0 : Int) (f1 : Int) (g0 : (Int → Int)) (g1 : (Int → Int)) (g3 : (Int → Int)) (g4 : (Int → Int)) (g5 : (Int → Int)) (rec : Int → (Int → Int) → (Int → Int) → (Int → Int) → Option ((Int → Int) × (Int → Int) × (Int → Int))) (x2 : Int) (g2 : (Int → Int)) (g6 : (Int → Int)) (g7 : (Int → Int)) : Option ((Int → Int) × (Int → Int) × (Int → Int)) := if x2 < 24 then ((zf_M_looks_l2 x1 x2 f0 f1 g0 g1 g3 g4 g5 zi_fu (zi_w (x2 + 1)) g2 g6 g7).bind fun q15 => (rec (zi_w (x2 + 1)) q15.1 q15.2.1 q15.2.2)) else (some (g2, g6, g7))
def zf_M_looks_l1 (x1 : Int) (f0 : Int) (f1 : Int) (g0 : (Int → Int)) (g1 : (Int → Int)) (g3 : (Int → Int)) (g4 : (Int → Int)) (g5 : (Int → Int)) : Nat → Int → (Int → Int) → (Int → Int) → (Int → Int) → Option ((Int → Int) × (Int → Int) × (Int → Int))
  | 0, _, _, _, _ => none
  | n + 1, x2, g2, g6, g7 => zf_M_looks_l1_b x1 f0 f1 g0 g1 g3 g4 g5 (zf_M_looks_l1 x1 f0 f1 g0 g1 g3 g4 g5 n) x2 g2 g6 g7
def zf_M_looks (x1 : Int) (f0 : Int) (f1 : Int) (g0 : (Int → Int)) (g1 : (Int → Int)) (g2 : (Int → Int)) (g3 : (Int → Int)) (g4 : (Int → Int)) (g5 : (Int → Int)) (g6 : (Int → Int)) (g7 : (Int → Int)) : Option (Int × (Int → Int) × (Int → Int) × (Int → Int)) := (zf_M_seenFrom x1 f0 g0 g1 g2 g3 g4 g5 g6).bind fun r1 => ((zf_M_looks_l0 zi_fu 0 g7).bind fun q4 => ((zf_M_looks_l1 x1 f0 r1.1 g0 g1 g3 g4 g5 zi_fu 0 r1.2.1 r1.2.2 q4).bind fun q16 => (some (r1.1, q16.1, q16.2.1, q16.2.2))))
theorem zd252_0 : decode zxm252.2.1 0 = .ok (.aload_n 0, 1) := by decide +kernel
theorem zd252_1 : decode zxm252.2.1 1 = .ok (.aload_n 0, 1) := by decide +kernel
theorem zd252_2 : decode zxm252.2.1 2 = .ok (.iload_n 1, 1) := by decide +kernel
theorem zd252_3 : decode zxm252.2.1 3 = .ok (.invokevirtual 300, 3) := by decide +kernel
theorem zd252_6 : decode zxm252.2.1 6 = .ok (.putfield 303, 3) := by decide +kernel
theorem zd252_9 : decode zxm252.2.1 9 = .ok (.iconst 0, 1) := by decide +kernel
theorem zd252_10 : decode zxm252.2.1 10 = .ok (.istore_n 2, 1) := by decide +kernel
theorem zd252_11 : decode zxm252.2.1 11 = .ok (.iload_n 2, 1) := by decide +kernel
theorem zd252_12 : decode zxm252.2.1 12 = .ok (.bipush 24, 2) := by decide +kernel
theorem zd252_14 : decode zxm252.2.1 14 = .ok (.if_icmp .ge 16, 3) := by decide +kernel
theorem zd252_17 : decode zxm252.2.1 17 = .ok (.aload_n 0, 1) := by decide +kernel
theorem zd252_18 : decode zxm252.2.1 18 = .ok (.getfield 62, 3) := by decide +kernel
theorem zd252_21 : decode zxm252.2.1 21 = .ok (.iload_n 2, 1) := by decide +kernel
theorem zd252_22 : decode zxm252.2.1 22 = .ok (.iconst 0, 1) := by decide +kernel
theorem zd252_23 : decode zxm252.2.1 23 = .ok (.iastore, 1) := by decide +kernel
theorem zd252_24 : decode zxm252.2.1 24 = .ok (.iinc 2 1, 3) := by decide +kernel
theorem zd252_27 : decode zxm252.2.1 27 = .ok (.goto (-16), 3) := by decide +kernel
theorem zd252_30 : decode zxm252.2.1 30 = .ok (.iconst 0, 1) := by decide +kernel
theorem zd252_31 : decode zxm252.2.1 31 = .ok (.istore_n 2, 1) := by decide +kernel
theorem zd252_32 : decode zxm252.2.1 32 = .ok (.iload_n 2, 1) := by decide +kernel
theorem zd252_33 : decode zxm252.2.1 33 = .ok (.bipush 24, 2) := by decide +kernel
theorem zd252_35 : decode zxm252.2.1 35 = .ok (.if_icmp .ge 92, 3) := by decide +kernel
theorem zd252_38 : decode zxm252.2.1 38 = .ok (.iload_n 2, 1) := by decide +kernel
theorem zd252_39 : decode zxm252.2.1 39 = .ok (.iconst 1, 1) := by decide +kernel
theorem zd252_40 : decode zxm252.2.1 40 = .ok (.iadd, 1) := by decide +kernel
theorem zd252_41 : decode zxm252.2.1 41 = .ok (.istore_n 3, 1) := by decide +kernel
theorem zd252_42 : decode zxm252.2.1 42 = .ok (.iload_n 3, 1) := by decide +kernel
theorem zd252_43 : decode zxm252.2.1 43 = .ok (.bipush 24, 2) := by decide +kernel
theorem zd252_45 : decode zxm252.2.1 45 = .ok (.if_icmp .ge 76, 3) := by decide +kernel
theorem zd252_48 : decode zxm252.2.1 48 = .ok (.aload_n 0, 1) := by decide +kernel
theorem zd252_49 : decode zxm252.2.1 49 = .ok (.getfield 303, 3) := by decide +kernel
theorem zd252_52 : decode zxm252.2.1 52 = .ok (.iload_n 2, 1) := by decide +kernel
theorem zd252_53 : decode zxm252.2.1 53 = .ok (.invokestatic 138, 3) := by decide +kernel
theorem zd252_56 : decode zxm252.2.1 56 = .ok (.ifCond .eq 65, 3) := by decide +kernel
theorem zd252_59 : decode zxm252.2.1 59 = .ok (.aload_n 0, 1) := by decide +kernel
theorem zd252_60 : decode zxm252.2.1 60 = .ok (.getfield 303, 3) := by decide +kernel
theorem zd252_63 : decode zxm252.2.1 63 = .ok (.iload_n 3, 1) := by decide +kernel
theorem zd252_64 : decode zxm252.2.1 64 = .ok (.invokestatic 138, 3) := by decide +kernel
theorem zd252_67 : decode zxm252.2.1 67 = .ok (.ifCond .eq 48, 3) := by decide +kernel
theorem zd252_70 : decode zxm252.2.1 70 = .ok (.aload_n 0, 1) := by decide +kernel
theorem zd252_71 : decode zxm252.2.1 71 = .ok (.iload_n 1, 1) := by decide +kernel
theorem zd252_72 : decode zxm252.2.1 72 = .ok (.iload_n 2, 1) := by decide +kernel
theorem zd252_73 : decode zxm252.2.1 73 = .ok (.iload_n 3, 1) := by decide +kernel
theorem zd252_74 : decode zxm252.2.1 74 = .ok (.invokevirtual 306, 3) := by decide +kernel
theorem zd252_77 : decode zxm252.2.1 77 = .ok (.ifCond .ne 6, 3) := by decide +kernel
theorem zd252_80 : decode zxm252.2.1 80 = .ok (.goto 35, 3) := by decide +kernel
theorem zd252_83 : decode zxm252.2.1 83 = .ok (.aload_n 0, 1) := by decide +kernel
theorem zd252_84 : decode zxm252.2.1 84 = .ok (.getfield 62, 3) := by decide +kernel
theorem zd252_87 : decode zxm252.2.1 87 = .ok (.iload_n 2, 1) := by decide +kernel
theorem zd252_88 : decode zxm252.2.1 88 = .ok (.aload_n 0, 1) := by decide +kernel
theorem zd252_89 : decode zxm252.2.1 89 = .ok (.getfield 62, 3) := by decide +kernel
theorem zd252_92 : decode zxm252.2.1 92 = .ok (.iload_n 2, 1) := by decide +kernel
theorem zd252_93 : decode zxm252.2.1 93 = .ok (.iaload, 1) := by decide +kernel
theorem zd252_94 : decode zxm252.2.1 94 = .ok (.iconst 1, 1) := by decide +kernel
theorem zd252_95 : decode zxm252.2.1 95 = .ok (.iload_n 3, 1) := by decide +kernel
theorem zd252_96 : decode zxm252.2.1 96 = .ok (.ishl, 1) := by decide +kernel
theorem zd252_97 : decode zxm252.2.1 97 = .ok (.ior, 1) := by decide +kernel
theorem zd252_98 : decode zxm252.2.1 98 = .ok (.iastore, 1) := by decide +kernel
theorem zd252_99 : decode zxm252.2.1 99 = .ok (.aload_n 0, 1) := by decide +kernel
theorem zd252_100 : decode zxm252.2.1 100 = .ok (.getfield 62, 3) := by decide +kernel
theorem zd252_103 : decode zxm252.2.1 103 = .ok (.iload_n 3, 1) := by decide +kernel
theorem zd252_104 : decode zxm252.2.1 104 = .ok (.aload_n 0, 1) := by decide +kernel
theorem zd252_105 : decode zxm252.2.1 105 = .ok (.getfield 62, 3) := by decide +kernel
theorem zd252_108 : decode zxm252.2.1 108 = .ok (.iload_n 3, 1) := by decide +kernel
theorem zd252_109 : decode zxm252.2.1 109 = .ok (.iaload, 1) := by decide +kernel
theorem zd252_110 : decode zxm252.2.1 110 = .ok (.iconst 1, 1) := by decide +kernel
theorem zd252_111 : decode zxm252.2.1 111 = .ok (.iload_n 2, 1) := by decide +kernel
theorem zd252_112 : decode zxm252.2.1 112 = .ok (.ishl, 1) := by decide +kernel
theorem zd252_113 : decode zxm252.2.1 113 = .ok (.ior, 1) := by decide +kernel
theorem zd252_114 : decode zxm252.2.1 114 = .ok (.iastore, 1) := by decide +kernel
theorem zd252_115 : decode zxm252.2.1 115 = .ok (.iinc 3 1, 3) := by decide +kernel
theorem zd252_118 : decode zxm252.2.1 118 = .ok (.goto (-76), 3) := by decide +kernel
theorem zd252_121 : decode zxm252.2.1 121 = .ok (.iinc 2 1, 3) := by decide +kernel
theorem zd252_124 : decode zxm252.2.1 124 = .ok (.goto (-92), 3) := by decide +kernel
theorem zd252_127 : decode zxm252.2.1 127 = .ok (.return_, 1) := by decide +kernel
theorem zt_M_looks {x1 : Int} {f0 : Int} {f1 : Int} {g0 : (Int → Int)} {g1 : (Int → Int)} {g2 : (Int → Int)} {g3 : (Int → Int)} {g4 : (Int → Int)} {g5 : (Int → Int)} {g6 : (Int → Int)} {g7 : (Int → Int)} {o : Int × (Int → Int) × (Int → Int) × (Int → Int)} (h : zf_M_looks x1 f0 f1 g0 g1 g2 g3 g4 g5 g6 g7 = some o) : zv_Fn z_TB z_cl z_KX zy_M_looks zxm252 (5, 300) [.inr 0, .inl x1] [.inl f0, .inl f1] [g0, g1, g2, g3, g4, g5, g6, g7] none [.inl f0, .inl o.1] [g0, g1, o.2.1, g3, g4, g5, o.2.2.1, o.2.2.2] := zv_meth (K := (z_KF13, z_KC13, z_KL13, z_KT13, [], [], [], none)) (FT := z_FT) (MT := z_MT) (n := 2) zxp252 (z_ks13 _ (fun _ h => List.mem_cons_of_mem _ h) _ _ _ _ (fun j r h _ => by cases h)) (fun _ _ => zs_KX_p) zyw_M_looks (fun va F G h => by obtain ⟨rfl, _⟩ := h; rfl) (fun va F G h => by obtain ⟨rfl, _⟩ := h; rfl) rfl fun good va F G hB hret hvret hP => by
  obtain ⟨rfl, rfl, rfl⟩ := hP
  have l0 : ∀ (n : Nat) (x1 : Int) (x2 : Int) (f1 : Int) (g2 : (Int → Int)) (g6 : (Int → Int)) (g7 : (Int → Int)) (q : (Int → Int)), zf_M_looks_l0 n x2 g7 = some q → (good 30 [.inr 0, .inl x1, .inr 1000, .inr 1000] [] [.inl f0, .inl f1] [g0, g1, g2, g3, g4, g5, g6, q]) → good 11 [.inr 0, .inl x1, .inl x2, .inr 1000] [] [.inl f0, .inl f1] [g0, g1, g2, g3, g4, g5, g6, g7] := by
    intro n
    induction n with
    | zero => intro x1 x2 f1 g2 g6 g7 q h; exact absurd (show none = some q from h) (fun h => by cases h)
    | succ n ih =>
      intro x1 x2 f1 g2 g6 g7 q h hK
      replace h : zf_M_looks_l0_b (zf_M_looks_l0 n) x2 g7 = some q := h
      unfold zf_M_looks_l0_b at h
      refine zv_ild hB zd252_11 rfl rfl ?_
      refine zv_con hB zd252_12 rfl ?_
      refine zv_cge hB zd252_14 rfl (fun hc2 => ?_) (fun hc2 => ?_)
      · rw [if_neg (Int.not_lt.mpr hc2)] at h
        have hq := Option.some.inj h
        subst hq
        refine zv_wk hB (L' := [.inr 0, .inl x1, .inr 1000, .inr 1000]) (F' := [.inl f0, .inl f1]) ⟨fun _ => rfl, fun _ => rfl, fun (h : zv_is (.inr 1000)) => (Nat.lt_irrefl 1000 h).elim, fun (h : zv_is (.inr 1000)) => (Nat.lt_irrefl 1000 h).elim, trivial⟩ ⟨fun _ => rfl, fun _ => rfl, trivial⟩ ?_
        exact hK
      · rw [if_pos hc2] at h
        refine zv_ald hB zd252_17 rfl rfl rfl ?_
        refine zv_getr hB zd252_18 rfl ?_
        refine zv_ild hB zd252_21 rfl rfl ?_
        refine zv_con hB zd252_22 rfl ?_
        obtain ⟨c3, h⟩ := zi_if h
        refine zv_iast hB zd252_23 rfl rfl (zi_ix_ok c3).1 (zi_ix_ok c3).2 ?_
        refine zv_iincw hB zd252_24 rfl rfl ?_
        refine zv_goto hB zd252_27 rfl ?_
        exact ih _ _ _ _ _ _ q h hK
  have l2 : ∀ (n : Nat) (x1 : Int) (x2 : Int) (x3 : Int) (f1 : Int) (g2 : (Int → Int)) (g6 : (Int → Int)) (g7 : (Int → Int)) (q : (Int → Int) × (Int → Int) × (Int → Int)), zf_M_looks_l2 x1 x2 f0 f1 g0 g1 g3 g4 g5 n x3 g2 g6 g7 = some q → (good 121 [.inr 0, .inl x1, .inl x2, .inr 1000] [] [.inl f0, .inl f1] [g0, g1, q.1, g3, g4, g5, q.2.1, q.2.2]) → good 42 [.inr 0, .inl x1, .inl x2, .inl x3] [] [.inl f0, .inl f1] [g0, g1, g2, g3, g4, g5, g6, g7] := by
    intro n
    induction n with
    | zero => intro x1 x2 x3 f1 g2 g6 g7 q h; exact absurd (show none = some q from h) (fun h => by cases h)
    | succ n ih =>
      intro x1 x2 x3 f1 g2 g6 g7 q h hK
      replace h : zf_M_looks_l2_b x1 x2 f0 f1 g0 g1 g3 g4 g5 (zf_M_looks_l2 x1 x2 f0 f1 g0 g1 g3 g4 g5 n) x3 g2 g6 g7 = some q := h
      unfold zf_M_looks_l2_b at h
      refine zv_ild hB zd252_42 rfl rfl ?_
      refine zv_con hB zd252_43 rfl ?_
      refine zv_cge hB zd252_45 rfl (fun hc6 => ?_) (fun hc6 => ?_)
      · rw [if_neg (Int.not_lt.mpr hc6)] at h
        have hq := Option.some.inj h
        subst hq
        refine zv_wk hB (L' := [.inr 0, .inl x1, .inl x2, .inr 1000]) (F' := [.inl f0, .inl f1]) ⟨fun _ => rfl, fun _ => rfl, fun _ => rfl, fun (h : zv_is (.inr 1000)) => (Nat.lt_irrefl 1000 h).elim, trivial⟩ ⟨fun _ => rfl, fun _ => rfl, trivial⟩ ?_
        exact hK
      · rw [if_pos hc6] at h
        refine zv_ald hB zd252_48 rfl rfl rfl ?_
        refine zv_getf hB zd252_49 rfl rfl (fun _ _ => ?_)
        refine zv_ild hB zd252_52 rfl rfl ?_
        obtain ⟨r7, hr7, h⟩ := zi_bind h
        refine zv_cs hB (zv_emq (va2 := [.inl f1, .inl x2]) (F := [.inl f0, .inl f1]) (F' := [.inl f0, .inl f1]) (G := [g0, g1, g2, g3, g4, g5, g6, g7]) (G' := [g0, g1, g2, g3, g4, g5, g6, g7]) (ρ := []) (φ := []) (ψ := []) [none, none] [none, none, none, none, none, none, none, none] zyw_M_has zyw_M_looks zye_M_looks (by decide +kernel) (zt_M_has hr7) trivial trivial rfl rfl rfl rfl rfl rfl rfl) zd252_53 zxt204 rfl (by decide) (by decide) rfl ?_
        refine zv_zeq hB zd252_56 rfl (fun hc8 => ?_) (fun hc8 => ?_)
        · rw [if_pos hc8] at h
          have hq := Option.some.inj h
          subst hq
          refine zv_wk hB (L' := [.inr 0, .inl x1, .inl x2, .inr 1000]) (F' := [.inl f0, .inl f1]) ⟨fun _ => rfl, fun _ => rfl, fun _ => rfl, fun (h : zv_is (.inr 1000)) => (Nat.lt_irrefl 1000 h).elim, trivial⟩ ⟨fun _ => rfl, fun _ => rfl, trivial⟩ ?_
          exact hK
        · rw [if_neg hc8] at h
          refine zv_ald hB zd252_59 rfl rfl rfl ?_
          refine zv_getf hB zd252_60 rfl rfl (fun _ _ => ?_)
          refine zv_ild hB zd252_63 rfl rfl ?_
          obtain ⟨r9, hr9, h⟩ := zi_bind h
          refine zv_cs hB (zv_emq (va2 := [.inl f1, .inl x3]) (F := [.inl f0, .inl f1]) (F' := [.inl f0, .inl f1]) (G := [g0, g1, g2, g3, g4, g5, g6, g7]) (G' := [g0, g1, g2, g3, g4, g5, g6, g7]) (ρ := []) (φ := []) (ψ := []) [none, none] [none, none, none, none, none, none, none, none] zyw_M_has zyw_M_looks zye_M_looks (by decide +kernel) (zt_M_has hr9) trivial trivial rfl rfl rfl rfl rfl rfl rfl) zd252_64 zxt204 rfl (by decide) (by decide) rfl ?_
          refine zv_zeq hB zd252_67 rfl (fun hc10 => ?_) (fun hc10 => ?_)
          · rw [if_pos hc10] at h
            refine zv_iincw hB zd252_115 rfl rfl ?_
            refine zv_goto hB zd252_118 rfl ?_
            exact ih _ _ _ _ _ _ _ q h hK
          · rw [if_neg hc10] at h
            refine zv_ald hB zd252_70 rfl rfl rfl ?_
            refine zv_ild hB zd252_71 rfl rfl ?_
            refine zv_ild hB zd252_72 rfl rfl ?_
            refine zv_ild hB zd252_73 rfl rfl ?_
            obtain ⟨r11, hr11, h⟩ := zi_bind h
            refine zv_cv hB (zv_emq (va2 := [.inr 0, .inl x1, .inl x2, .inl x3]) (F := [.inl f0, .inl f1]) (F' := [.inl f0, .inl f1]) (G := [g0, g1, g2, g3, g4, g5, g6, g7]) (G' := [g0, g1, r11.2.1, g3, g4, g5, r11.2.2, g7]) (ρ := [0, 3, 1, 2, 4, 5, 6, 7]) (φ := [0]) (ψ := [2, 0, 1, 3, 4, 5, 6]) [some 0, none] [some 1, some 2, some 0, some 3, some 4, some 5, some 6, none] zyw_M_isDrawn zyw_M_looks zye_M_looks (by decide +kernel) (zt_M_isDrawn hr11) ⟨⟨_, rfl, fun _ => rfl⟩, trivial⟩ ⟨rfl, rfl, rfl, rfl, rfl, rfl, rfl, trivial⟩ rfl rfl rfl rfl rfl rfl rfl) zd252_74 zxt253 rfl (by decide) (by decide) rfl ?_
            refine zv_zne hB zd252_77 rfl (fun hc12 => ?_) (fun hc12 => ?_)
            · rw [if_neg hc12] at h
              refine zv_ald hB zd252_83 rfl rfl rfl ?_
              refine zv_getr hB zd252_84 rfl ?_
              refine zv_ild hB zd252_87 rfl rfl ?_
              refine zv_ald hB zd252_88 rfl rfl rfl ?_
              refine zv_getr hB zd252_89 rfl ?_
              refine zv_ild hB zd252_92 rfl rfl ?_
              obtain ⟨c13, h⟩ := zi_if h
              refine zv_iald hB zd252_93 rfl rfl (zi_ix_ok c13).1 (zi_ix_ok c13).2 (fun _ _ => ?_)
              refine zv_con hB zd252_94 rfl ?_
              refine zv_ild hB zd252_95 rfl rfl ?_
              refine zv_shlw hB zd252_96 ?_
              refine zv_orw hB zd252_97 ?_
              refine zv_iast hB zd252_98 rfl rfl (zi_ix_ok c13).1 (zi_ix_ok c13).2 ?_
              refine zv_ald hB zd252_99 rfl rfl rfl ?_
              refine zv_getr hB zd252_100 rfl ?_
              refine zv_ild hB zd252_103 rfl rfl ?_
              refine zv_ald hB zd252_104 rfl rfl rfl ?_
              refine zv_getr hB zd252_105 rfl ?_
              refine zv_ild hB zd252_108 rfl rfl ?_
              obtain ⟨c14, h⟩ := zi_if h
              refine zv_iald hB zd252_109 rfl rfl (zi_ix_ok c14).1 (zi_ix_ok c14).2 (fun _ _ => ?_)
              refine zv_con hB zd252_110 rfl ?_
              refine zv_ild hB zd252_111 rfl rfl ?_
              refine zv_shlw hB zd252_112 ?_
              refine zv_orw hB zd252_113 ?_
              refine zv_iast hB zd252_114 rfl rfl (zi_ix_ok c14).1 (zi_ix_ok c14).2 ?_
              refine zv_iincw hB zd252_115 rfl rfl ?_
              refine zv_goto hB zd252_118 rfl ?_
              exact ih _ _ _ _ _ _ _ q h hK
            · rw [if_pos hc12] at h
              refine zv_goto hB zd252_80 rfl ?_
              refine zv_iincw hB zd252_115 rfl rfl ?_
              refine zv_goto hB zd252_118 rfl ?_
              exact ih _ _ _ _ _ _ _ q h hK
  have l1 : ∀ (n : Nat) (x1 : Int) (x2 : Int) (f1 : Int) (g2 : (Int → Int)) (g6 : (Int → Int)) (g7 : (Int → Int)) (q : (Int → Int) × (Int → Int) × (Int → Int)), zf_M_looks_l1 x1 f0 f1 g0 g1 g3 g4 g5 n x2 g2 g6 g7 = some q → (good 127 [.inr 1000, .inr 1000, .inr 1000, .inr 1000] [] [.inl f0, .inl f1] [g0, g1, q.1, g3, g4, g5, q.2.1, q.2.2]) → good 32 [.inr 0, .inl x1, .inl x2, .inr 1000] [] [.inl f0, .inl f1] [g0, g1, g2, g3, g4, g5, g6, g7] := by
    intro n
    induction n with
    | zero => intro x1 x2 f1 g2 g6 g7 q h; exact absurd (show none = some q from h) (fun h => by cases h)
    | succ n ih =>
      intro x1 x2 f1 g2 g6 g7 q h hK
      replace h : zf_M_looks_l1_b x1 f0 f1 g0 g1 g3 g4 g5 (zf_M_looks_l1 x1 f0 f1 g0 g1 g3 g4 g5 n) x2 g2 g6 g7 = some q := h
      unfold zf_M_looks_l1_b at h
      refine zv_ild hB zd252_32 rfl rfl ?_
      refine zv_con hB zd252_33 rfl ?_
      refine zv_cge hB zd252_35 rfl (fun hc5 => ?_) (fun hc5 => ?_)
      · rw [if_neg (Int.not_lt.mpr hc5)] at h
        have hq := Option.some.inj h
        subst hq
        refine zv_wk hB (L' := [.inr 1000, .inr 1000, .inr 1000, .inr 1000]) (F' := [.inl f0, .inl f1]) ⟨fun (h : zv_is (.inr 1000)) => (Nat.lt_irrefl 1000 h).elim, fun (h : zv_is (.inr 1000)) => (Nat.lt_irrefl 1000 h).elim, fun (h : zv_is (.inr 1000)) => (Nat.lt_irrefl 1000 h).elim, fun (h : zv_is (.inr 1000)) => (Nat.lt_irrefl 1000 h).elim, trivial⟩ ⟨fun _ => rfl, fun _ => rfl, trivial⟩ ?_
        exact hK
      · rw [if_pos hc5] at h
        refine zv_ild hB zd252_38 rfl rfl ?_
        refine zv_con hB zd252_39 rfl ?_
        refine zv_addw hB zd252_40 ?_
        refine zv_ist hB zd252_41 rfl rfl rfl ?_
        obtain ⟨q15, hq15, h⟩ := zi_bind h
        refine l2 _ _ _ _ _ _ _ _ q15 hq15 ?_
        show good 121 [.inr 0, .inl x1, .inl x2, .inr 1000] [] [.inl f0, .inl f1] [g0, g1, q15.1, g3, g4, g5, q15.2.1, q15.2.2]
        refine zv_iincw hB zd252_121 rfl rfl ?_
        refine zv_goto hB zd252_124 rfl ?_
        exact ih _ _ _ _ _ _ q h hK
  unfold zf_M_looks at h
  refine zv_ald hB zd252_0 rfl rfl rfl ?_
  refine zv_ald hB zd252_1 rfl rfl rfl ?_
  refine zv_ild hB zd252_2 rfl rfl ?_
  obtain ⟨r1, hr1, h⟩ := zi_bind h
  refine zv_cv hB (zv_emq (va2 := [.inr 0, .inl x1]) (F := [.inl f0, .inl f1]) (F' := [.inl f0, .inl f1]) (G := [g0, g1, g2, g3, g4, g5, g6, g7]) (G' := [g0, g1, r1.2.1, g3, g4, g5, r1.2.2, g7]) (ρ := [0, 1, 2, 3, 4, 5, 6, 7]) (φ := [0]) (ψ := [0, 1, 2, 3, 4, 5, 6]) [some 0, none] [some 0, some 1, some 2, some 3, some 4, some 5, some 6, none] zyw_M_seenFrom zyw_M_looks zye_M_looks (by decide +kernel) (zt_M_seenFrom hr1) ⟨⟨_, rfl, fun _ => rfl⟩, trivial⟩ ⟨rfl, rfl, rfl, rfl, rfl, rfl, rfl, trivial⟩ rfl rfl rfl rfl rfl rfl rfl) zd252_3 zxt240 rfl (by decide) (by decide) rfl ?_
  refine zv_putf hB zd252_6 rfl rfl (fun h => by cases h) rfl ?_
  refine zv_con hB zd252_9 rfl ?_
  refine zv_ist hB zd252_10 rfl rfl rfl ?_
  obtain ⟨q4, hq4, h⟩ := zi_bind h
  refine l0 _ _ _ _ _ _ _ q4 hq4 ?_
  show good 30 [.inr 0, .inl x1, .inr 1000, .inr 1000] [] [.inl f0, .inl r1.1] [g0, g1, r1.2.1, g3, g4, g5, r1.2.2, q4]
  refine zv_con hB zd252_30 rfl ?_
  refine zv_ist hB zd252_31 rfl rfl rfl ?_
  obtain ⟨q16, hq16, h⟩ := zi_bind h
  refine l1 _ _ _ _ _ _ _ q16 hq16 ?_
  show good 127 [.inr 1000, .inr 1000, .inr 1000, .inr 1000] [] [.inl f0, .inl r1.1] [g0, g1, q16.1, g3, g4, g5, q16.2.1, q16.2.2]
  have hw := Option.some.inj h
  subst hw
  exact hvret _ _ _ _ zd252_127 trivial ⟨rfl, rfl, rfl⟩
/-! M_line (IIII)I -/
-- names: 0 StarTalesModel('arg', 0), 1 (0, 422)(0, 12, 0), 2 (0, 14)(0, 12, 21), 3 (0, 13)(0, 12, 26), 4 (0, 14)(0, 12, 23), 5 (0, 14)(0, 12, 24), 6 (0, 220)(0, 12, 20), 7 (0, 220)(0, 12, 25), 8 (0, 24)(0, 12, 28)
-- fields: f0 = 0.clauses_, f1 = 0.seen0_; arrays: g0 = 1, g1 = 2, g2 = 3, g3 = 4, g4 = 5, g5 = 6, g6 = 7, g7 = 8; out: [('ret', None), ('f', 1), ('g', 2), ('g', 6), ('g', 7)]
abbrev zy_M_line : zNL := (9, [(0, 12)], [(0, 12, 13, 0), (0, 12, 27, 1)], [(0, 12, 0, 1), (0, 12, 21, 2), (0, 12, 26, 3), (0, 12, 23, 4), (0, 12, 24, 5), (0, 12, 20, 6), (0, 12, 25, 7), (0, 12, 28, 8)], [(1, 0, 422, 0), (2, 0, 14, 1), (3, 0, 13, 2), (4, 0, 14, 3), (5, 0, 14, 4), (6, 0, 220, 5), (7, 0, 220, 6), (8, 0, 24, 7)])
theorem zyw_M_line : zv_wf zy_M_line = true := by decide +kernel
theorem zye_M_line : zv_ek2 zy_M_line = true := by decide +kernel
def zf_M_line (x1 : Int) (x2 : Int) (x3 : Int) (x4 : Int) (f0 : Int) (f1 : Int) (g0 : (Int → Int)) (g1 : (Int → Int)) (g2 : (Int → Int)) (g3 : (Int → Int)) (g4 : (Int → Int)) (g5 : (Int → Int)) (g6 : (Int → Int)) (g7 : (Int → Int)) : Option (Int × Int × (Int → Int) × (Int → Int) × (Int → Int)) := (zf_M_isPlace x1 x2).bind fun r1 => (if r1 = 0 then (some ((-1), f1, g2, g6, g7)) else ((zf_M_isTold x3 g0).bind fun r3 => (if r3 = 0 then (some ((-1), f1, g2, g6, g7)) else ((zf_M_isTold x4 g0).bind fun r5 => (if r5 = 0 then (some ((-1), f1, g2, g6, g7)) else (if x3 = x4 then (some ((-1), f1, g2, g6, g7)) else ((zf_M_looks (zi_w ((zi_w (24 * x2)) + x1)) f0 f1 g0 g1 g2 g3 g4 g5 g6 g7).bind fun r8 => (cond (zi_ix x3 24) ((zf_M_has (r8.2.2.2 x3) x4).bind fun r10 => (if r10 = 0 then (some (0, r8.1, r8.2.1, r8.2.2.1, r8.2.2.2)) else (some (1, r8.1, r8.2.1, r8.2.2.1, r8.2.2.2)))) none))))))))
theorem zd251_0 : decode zxm251.2.1 0 = .ok (.iload_n 1, 1) := by decide +kernel
theorem zd251_1 : decode zxm251.2.1 1 = .ok (.iload_n 2, 1) := by decide +kernel
theorem zd251_2 : decode zxm251.2.1 2 = .ok (.invokestatic 154, 3) := by decide +kernel
theorem zd251_5 : decode zxm251.2.1 5 = .ok (.ifCond .eq 26, 3) := by decide +kernel
theorem zd251_8 : decode zxm251.2.1 8 = .ok (.aload_n 0, 1) := by decide +kernel
theorem zd251_9 : decode zxm251.2.1 9 = .ok (.iload_n 3, 1) := by decide +kernel
theorem zd251_10 : decode zxm251.2.1 10 = .ok (.invokevirtual 157, 3) := by decide +kernel
theorem zd251_13 : decode zxm251.2.1 13 = .ok (.ifCond .eq 18, 3) := by decide +kernel
theorem zd251_16 : decode zxm251.2.1 16 = .ok (.aload_n 0, 1) := by decide +kernel
theorem zd251_17 : decode zxm251.2.1 17 = .ok (.iload 4, 2) := by decide +kernel
theorem zd251_19 : decode zxm251.2.1 19 = .ok (.invokevirtual 157, 3) := by decide +kernel
theorem zd251_22 : decode zxm251.2.1 22 = .ok (.ifCond .eq 9, 3) := by decide +kernel
theorem zd251_25 : decode zxm251.2.1 25 = .ok (.iload_n 3, 1) := by decide +kernel
theorem zd251_26 : decode zxm251.2.1 26 = .ok (.iload 4, 2) := by decide +kernel
theorem zd251_28 : decode zxm251.2.1 28 = .ok (.if_icmp .ne 5, 3) := by decide +kernel
theorem zd251_31 : decode zxm251.2.1 31 = .ok (.iconst (-1), 1) := by decide +kernel
theorem zd251_32 : decode zxm251.2.1 32 = .ok (.ireturn, 1) := by decide +kernel
theorem zd251_33 : decode zxm251.2.1 33 = .ok (.aload_n 0, 1) := by decide +kernel
theorem zd251_34 : decode zxm251.2.1 34 = .ok (.bipush 24, 2) := by decide +kernel
theorem zd251_36 : decode zxm251.2.1 36 = .ok (.iload_n 2, 1) := by decide +kernel
theorem zd251_37 : decode zxm251.2.1 37 = .ok (.imul, 1) := by decide +kernel
theorem zd251_38 : decode zxm251.2.1 38 = .ok (.iload_n 1, 1) := by decide +kernel
theorem zd251_39 : decode zxm251.2.1 39 = .ok (.iadd, 1) := by decide +kernel
theorem zd251_40 : decode zxm251.2.1 40 = .ok (.invokevirtual 309, 3) := by decide +kernel
theorem zd251_43 : decode zxm251.2.1 43 = .ok (.aload_n 0, 1) := by decide +kernel
theorem zd251_44 : decode zxm251.2.1 44 = .ok (.getfield 62, 3) := by decide +kernel
theorem zd251_47 : decode zxm251.2.1 47 = .ok (.iload_n 3, 1) := by decide +kernel
theorem zd251_48 : decode zxm251.2.1 48 = .ok (.iaload, 1) := by decide +kernel
theorem zd251_49 : decode zxm251.2.1 49 = .ok (.iload 4, 2) := by decide +kernel
theorem zd251_51 : decode zxm251.2.1 51 = .ok (.invokestatic 138, 3) := by decide +kernel
theorem zd251_54 : decode zxm251.2.1 54 = .ok (.ifCond .eq 7, 3) := by decide +kernel
theorem zd251_57 : decode zxm251.2.1 57 = .ok (.iconst 1, 1) := by decide +kernel
theorem zd251_58 : decode zxm251.2.1 58 = .ok (.goto 4, 3) := by decide +kernel
theorem zd251_61 : decode zxm251.2.1 61 = .ok (.iconst 0, 1) := by decide +kernel
theorem zd251_62 : decode zxm251.2.1 62 = .ok (.ireturn, 1) := by decide +kernel
theorem zt_M_line {x1 : Int} {x2 : Int} {x3 : Int} {x4 : Int} {f0 : Int} {f1 : Int} {g0 : (Int → Int)} {g1 : (Int → Int)} {g2 : (Int → Int)} {g3 : (Int → Int)} {g4 : (Int → Int)} {g5 : (Int → Int)} {g6 : (Int → Int)} {g7 : (Int → Int)} {o : Int × Int × (Int → Int) × (Int → Int) × (Int → Int)} (h : zf_M_line x1 x2 x3 x4 f0 f1 g0 g1 g2 g3 g4 g5 g6 g7 = some o) : zv_Fn z_TB z_cl z_KX zy_M_line zxm251 (6, 360) [.inr 0, .inl x1, .inl x2, .inl x3, .inl x4] [.inl f0, .inl f1] [g0, g1, g2, g3, g4, g5, g6, g7] (some o.1) [.inl f0, .inl o.2.1] [g0, g1, o.2.2.1, g3, g4, g5, o.2.2.2.1, o.2.2.2.2] := zv_meth (K := (z_KF13, z_KC13, z_KL13, z_KT13, [], [], [], none)) (FT := z_FT) (MT := z_MT) (n := 5) zxp251 (z_ks13 _ (fun _ h => List.mem_cons_of_mem _ h) _ _ _ _ (fun j r h _ => by cases h)) (fun _ _ => zs_KX_p) zyw_M_line (fun va F G h => by obtain ⟨rfl, _⟩ := h; rfl) (fun va F G h => by obtain ⟨rfl, _⟩ := h; rfl) rfl fun good va F G hB hret hvret hP => by
  obtain ⟨rfl, rfl, rfl⟩ := hP
  unfold zf_M_line at h
  refine zv_ild hB zd251_0 rfl rfl ?_
  refine zv_ild hB zd251_1 rfl rfl ?_
  obtain ⟨r1, hr1, h⟩ := zi_bind h
  refine zv_cs hB (zv_emq (va2 := [.inl x1, .inl x2]) (F := [.inl f0, .inl f1]) (F' := [.inl f0, .inl f1]) (G := [g0, g1, g2, g3, g4, g5, g6, g7]) (G' := [g0, g1, g2, g3, g4, g5, g6, g7]) (ρ := []) (φ := []) (ψ := []) [none, none] [none, none, none, none, none, none, none, none] zyw_M_isPlace zyw_M_line zye_M_line (by decide +kernel) (zt_M_isPlace hr1) trivial trivial rfl rfl rfl rfl rfl rfl rfl) zd251_2 zxt201 rfl (by decide) (by decide) rfl ?_
  refine zv_zeq hB zd251_5 rfl (fun hc2 => ?_) (fun hc2 => ?_)
  · rw [if_pos hc2] at h
    refine zv_con hB zd251_31 rfl ?_
    have hw := Option.some.inj h
    subst hw
    exact hret _ _ _ _ _ zd251_32 (by trivial) ⟨rfl, rfl, rfl⟩
  · rw [if_neg hc2] at h
    refine zv_ald hB zd251_8 rfl rfl rfl ?_
    refine zv_ild hB zd251_9 rfl rfl ?_
    obtain ⟨r3, hr3, h⟩ := zi_bind h
    refine zv_cv hB (zv_emq (va2 := [.inr 0, .inl x3]) (F := [.inl f0, .inl f1]) (F' := [.inl f0, .inl f1]) (G := [g0, g1, g2, g3, g4, g5, g6, g7]) (G' := [g0, g1, g2, g3, g4, g5, g6, g7]) (ρ := [0, 1]) (φ := []) (ψ := [0]) [none, none] [some 0, none, none, none, none, none, none, none] zyw_M_isTold zyw_M_line zye_M_line (by decide +kernel) (zt_M_isTold hr3) trivial ⟨rfl, trivial⟩ rfl rfl rfl rfl rfl rfl rfl) zd251_10 zxt203 rfl (by decide) (by decide) rfl ?_
    refine zv_zeq hB zd251_13 rfl (fun hc4 => ?_) (fun hc4 => ?_)
    · rw [if_pos hc4] at h
      refine zv_con hB zd251_31 rfl ?_
      have hw := Option.some.inj h
      subst hw
      exact hret _ _ _ _ _ zd251_32 (by trivial) ⟨rfl, rfl, rfl⟩
    · rw [if_neg hc4] at h
      refine zv_ald hB zd251_16 rfl rfl rfl ?_
      refine zv_ild hB zd251_17 rfl rfl ?_
      obtain ⟨r5, hr5, h⟩ := zi_bind h
      refine zv_cv hB (zv_emq (va2 := [.inr 0, .inl x4]) (F := [.inl f0, .inl f1]) (F' := [.inl f0, .inl f1]) (G := [g0, g1, g2, g3, g4, g5, g6, g7]) (G' := [g0, g1, g2, g3, g4, g5, g6, g7]) (ρ := [0, 1]) (φ := []) (ψ := [0]) [none, none] [some 0, none, none, none, none, none, none, none] zyw_M_isTold zyw_M_line zye_M_line (by decide +kernel) (zt_M_isTold hr5) trivial ⟨rfl, trivial⟩ rfl rfl rfl rfl rfl rfl rfl) zd251_19 zxt203 rfl (by decide) (by decide) rfl ?_
      refine zv_zeq hB zd251_22 rfl (fun hc6 => ?_) (fun hc6 => ?_)
      · rw [if_pos hc6] at h
        refine zv_con hB zd251_31 rfl ?_
        have hw := Option.some.inj h
        subst hw
        exact hret _ _ _ _ _ zd251_32 (by trivial) ⟨rfl, rfl, rfl⟩
      · rw [if_neg hc6] at h
        refine zv_ild hB zd251_25 rfl rfl ?_
        refine zv_ild hB zd251_26 rfl rfl ?_
        refine zv_cne hB zd251_28 rfl (fun hc7 => ?_) (fun hc7 => ?_)
        · rw [if_neg hc7] at h
          refine zv_ald hB zd251_33 rfl rfl rfl ?_
          refine zv_con hB zd251_34 rfl ?_
          refine zv_ild hB zd251_36 rfl rfl ?_
          refine zv_mulw hB zd251_37 ?_
          refine zv_ild hB zd251_38 rfl rfl ?_
          refine zv_addw hB zd251_39 ?_
          obtain ⟨r8, hr8, h⟩ := zi_bind h
          refine zv_cv hB (zv_emq (va2 := [.inr 0, .inl (zi_w ((zi_w (24 * x2)) + x1))]) (F := [.inl f0, .inl f1]) (F' := [.inl f0, .inl r8.1]) (G := [g0, g1, g2, g3, g4, g5, g6, g7]) (G' := [g0, g1, r8.2.1, g3, g4, g5, r8.2.2.1, r8.2.2.2]) (ρ := [0, 1, 2, 3, 4, 5, 6, 7, 8]) (φ := [0, 1]) (ψ := [0, 1, 2, 3, 4, 5, 6, 7]) [some 0, some 1] [some 0, some 1, some 2, some 3, some 4, some 5, some 6, some 7] zyw_M_looks zyw_M_line zye_M_line (by decide +kernel) (zt_M_looks hr8) ⟨⟨_, rfl, fun _ => rfl⟩, ⟨_, rfl, fun _ => rfl⟩, trivial⟩ ⟨rfl, rfl, rfl, rfl, rfl, rfl, rfl, rfl, trivial⟩ rfl rfl rfl rfl rfl rfl rfl) zd251_40 zxt252 rfl (by decide) (by decide) rfl ?_
          refine zv_ald hB zd251_43 rfl rfl rfl ?_
          refine zv_getr hB zd251_44 rfl ?_
          refine zv_ild hB zd251_47 rfl rfl ?_
          obtain ⟨c9, h⟩ := zi_if h
          refine zv_iald hB zd251_48 rfl rfl (zi_ix_ok c9).1 (zi_ix_ok c9).2 (fun _ _ => ?_)
          refine zv_ild hB zd251_49 rfl rfl ?_
          obtain ⟨r10, hr10, h⟩ := zi_bind h
          refine zv_cs hB (zv_emq (va2 := [.inl (r8.2.2.2 x3), .inl x4]) (F := [.inl f0, .inl r8.1]) (F' := [.inl f0, .inl r8.1]) (G := [g0, g1, r8.2.1, g3, g4, g5, r8.2.2.1, r8.2.2.2]) (G' := [g0, g1, r8.2.1, g3, g4, g5, r8.2.2.1, r8.2.2.2]) (ρ := []) (φ := []) (ψ := []) [none, none] [none, none, none, none, none, none, none, none] zyw_M_has zyw_M_line zye_M_line (by decide +kernel) (zt_M_has hr10) trivial trivial rfl rfl rfl rfl rfl rfl rfl) zd251_51 zxt204 rfl (by decide) (by decide) rfl ?_
          refine zv_zeq hB zd251_54 rfl (fun hc11 => ?_) (fun hc11 => ?_)
          · rw [if_pos hc11] at h
            refine zv_con hB zd251_61 rfl ?_
            have hw := Option.some.inj h
            subst hw
            exact hret _ _ _ _ _ zd251_62 (by trivial) ⟨rfl, rfl, rfl⟩
          · rw [if_neg hc11] at h
            refine zv_con hB zd251_57 rfl ?_
            refine zv_goto hB zd251_58 rfl ?_
            have hw := Option.some.inj h
            subst hw
            exact hret _ _ _ _ _ zd251_62 (by trivial) ⟨rfl, rfl, rfl⟩
        · rw [if_pos hc7] at h
          refine zv_con hB zd251_31 rfl ?_
          have hw := Option.some.inj h
          subst hw
          exact hret _ _ _ _ _ zd251_32 (by trivial) ⟨rfl, rfl, rfl⟩
/-! M_figureOf (I)I -/
-- names: 0 StarTalesModel('arg', 0), 1 (0, 24)(0, 12, 28)
-- fields: ; arrays: g0 = 1; out: [('ret', None)]
abbrev zy_M_figureOf : zNL := (2, [(0, 12)], [], [(0, 12, 28, 1)], [(1, 0, 24, 0)])
theorem zyw_M_figureOf : zv_wf zy_M_figureOf = true := by decide +kernel
theorem zye_M_figureOf : zv_ek2 zy_M_figureOf = true := by decide +kernel
def zf_M_figureOf_l1_b (x3 : Int) (g0 : (Int → Int)) (rec : Int → Int → Option (Int)) (x2 : Int) (x4 : Int) : Option (Int) := if x4 < 24 then ((zf_M_has x3 x4).bind fun r3 => (if r3 = 0 then (rec x2 (zi_w (x4 + 1))) else (cond (zi_ix x4 24) (rec (zi_or x2 (g0 x4)) (zi_w (x4 + 1))) none))) else (some x2)
def zf_M_figureOf_l1 (x3 : Int) (g0 : (Int → Int)) : Nat → Int → Int → Option (Int)
  | 0, _, _ => none
  | n + 1, x2, x4 => zf_M_figureOf_l1_b x3 g0 (zf_M_figureOf_l1 x3 g0 n) x2 x4
def zf_M_figureOf_l0_b (g0 : (Int → Int)) (rec : Int → Int → Option (Int)) (x2 : Int) (x3 : Int) : Option (Int) := if x3 = x2 then (some x2) else ((zf_M_figureOf_l1 x2 g0 zi_fu x2 0).bind fun q6 => (rec q6 x2))
def zf_M_figureOf_l0 (g0 : (Int → Int)) : Nat → Int → Int → Option (Int)
  | 0, _, _ => none
  | n + 1, x2, x3 => zf_M_figureOf_l0_b g0 (zf_M_figureOf_l0 g0 n) x2 x3
def zf_M_figureOf (x1 : Int) (g0 : (Int → Int)) : Option (Int) := (zf_M_figureOf_l0 g0 zi_fu (zi_shl 1 x1) 0).bind fun q7 => (some q7)
theorem zd256_0 : decode zxm256.2.1 0 = .ok (.iconst 1, 1) := by decide +kernel
theorem zd256_1 : decode zxm256.2.1 1 = .ok (.iload_n 1, 1) := by decide +kernel
theorem zd256_2 : decode zxm256.2.1 2 = .ok (.ishl, 1) := by decide +kernel
theorem zd256_3 : decode zxm256.2.1 3 = .ok (.istore_n 2, 1) := by decide +kernel
theorem zd256_4 : decode zxm256.2.1 4 = .ok (.iconst 0, 1) := by decide +kernel
theorem zd256_5 : decode zxm256.2.1 5 = .ok (.istore_n 3, 1) := by decide +kernel
theorem zd256_6 : decode zxm256.2.1 6 = .ok (.iload_n 3, 1) := by decide +kernel
theorem zd256_7 : decode zxm256.2.1 7 = .ok (.iload_n 2, 1) := by decide +kernel
theorem zd256_8 : decode zxm256.2.1 8 = .ok (.if_icmp .eq 43, 3) := by decide +kernel
theorem zd256_11 : decode zxm256.2.1 11 = .ok (.iload_n 2, 1) := by decide +kernel
theorem zd256_12 : decode zxm256.2.1 12 = .ok (.istore_n 3, 1) := by decide +kernel
theorem zd256_13 : decode zxm256.2.1 13 = .ok (.iconst 0, 1) := by decide +kernel
theorem zd256_14 : decode zxm256.2.1 14 = .ok (.istore 4, 2) := by decide +kernel
theorem zd256_16 : decode zxm256.2.1 16 = .ok (.iload 4, 2) := by decide +kernel
theorem zd256_18 : decode zxm256.2.1 18 = .ok (.bipush 24, 2) := by decide +kernel
theorem zd256_20 : decode zxm256.2.1 20 = .ok (.if_icmp .ge 28, 3) := by decide +kernel
theorem zd256_23 : decode zxm256.2.1 23 = .ok (.iload_n 3, 1) := by decide +kernel
theorem zd256_24 : decode zxm256.2.1 24 = .ok (.iload 4, 2) := by decide +kernel
theorem zd256_26 : decode zxm256.2.1 26 = .ok (.invokestatic 138, 3) := by decide +kernel
theorem zd256_29 : decode zxm256.2.1 29 = .ok (.ifCond .eq 13, 3) := by decide +kernel
theorem zd256_32 : decode zxm256.2.1 32 = .ok (.iload_n 2, 1) := by decide +kernel
theorem zd256_33 : decode zxm256.2.1 33 = .ok (.aload_n 0, 1) := by decide +kernel
theorem zd256_34 : decode zxm256.2.1 34 = .ok (.getfield 62, 3) := by decide +kernel
theorem zd256_37 : decode zxm256.2.1 37 = .ok (.iload 4, 2) := by decide +kernel
theorem zd256_39 : decode zxm256.2.1 39 = .ok (.iaload, 1) := by decide +kernel
theorem zd256_40 : decode zxm256.2.1 40 = .ok (.ior, 1) := by decide +kernel
theorem zd256_41 : decode zxm256.2.1 41 = .ok (.istore_n 2, 1) := by decide +kernel
theorem zd256_42 : decode zxm256.2.1 42 = .ok (.iinc 4 1, 3) := by decide +kernel
theorem zd256_45 : decode zxm256.2.1 45 = .ok (.goto (-29), 3) := by decide +kernel
theorem zd256_48 : decode zxm256.2.1 48 = .ok (.goto (-42), 3) := by decide +kernel
theorem zd256_51 : decode zxm256.2.1 51 = .ok (.iload_n 2, 1) := by decide +kernel
theorem zd256_52 : decode zxm256.2.1 52 = .ok (.ireturn, 1) := by decide +kernel
theorem zt_M_figureOf {x1 : Int} {g0 : (Int → Int)} {o : Int} (h : zf_M_figureOf x1 g0 = some o) : zv_Fn z_TB z_cl z_KX zy_M_figureOf zxm256 (1, 60) [.inr 0, .inl x1] [] [g0] (some o) [] [g0] := zv_meth (K := (z_KF13, z_KC13, z_KL13, z_KT13, [], [], [], none)) (FT := z_FT) (MT := z_MT) (n := 2) zxp256 (z_ks13 _ (fun _ h => List.mem_cons_of_mem _ h) _ _ _ _ (fun j r h _ => by cases h)) (fun _ _ => zs_KX_p) zyw_M_figureOf (fun va F G h => by obtain ⟨rfl, _⟩ := h; rfl) (fun va F G h => by obtain ⟨rfl, _⟩ := h; rfl) rfl fun good va F G hB hret hvret hP => by
  obtain ⟨rfl, rfl, rfl⟩ := hP
  have l1 : ∀ (n : Nat) (x2 : Int) (x3 : Int) (x4 : Int) (q : Int), zf_M_figureOf_l1 x3 g0 n x2 x4 = some q → (good 48 [.inr 0, .inr 1000, .inl q, .inl x3, .inr 1000] [] [] [g0]) → good 16 [.inr 0, .inr 1000, .inl x2, .inl x3, .inl x4] [] [] [g0] := by
    intro n
    induction n with
    | zero => intro x2 x3 x4 q h; exact absurd (show none = some q from h) (fun h => by cases h)
    | succ n ih =>
      intro x2 x3 x4 q h hK
      replace h : zf_M_figureOf_l1_b x3 g0 (zf_M_figureOf_l1 x3 g0 n) x2 x4 = some q := h
      unfold zf_M_figureOf_l1_b at h
      refine zv_ild hB zd256_16 rfl rfl ?_
      refine zv_con hB zd256_18 rfl ?_
      refine zv_cge hB zd256_20 rfl (fun hc2 => ?_) (fun hc2 => ?_)
      · rw [if_neg (Int.not_lt.mpr hc2)] at h
        have hq := Option.some.inj h
        subst hq
        refine zv_wk hB (L' := [.inr 0, .inr 1000, .inl x2, .inl x3, .inr 1000]) (F' := []) ⟨fun _ => rfl, fun (h : zv_is (.inr 1000)) => (Nat.lt_irrefl 1000 h).elim, fun _ => rfl, fun _ => rfl, fun (h : zv_is (.inr 1000)) => (Nat.lt_irrefl 1000 h).elim, trivial⟩ trivial ?_
        exact hK
      · rw [if_pos hc2] at h
        refine zv_ild hB zd256_23 rfl rfl ?_
        refine zv_ild hB zd256_24 rfl rfl ?_
        obtain ⟨r3, hr3, h⟩ := zi_bind h
        refine zv_cs hB (zv_emq (va2 := [.inl x3, .inl x4]) (F := []) (F' := []) (G := [g0]) (G' := [g0]) (ρ := []) (φ := []) (ψ := []) [] [none] zyw_M_has zyw_M_figureOf zye_M_figureOf (by decide +kernel) (zt_M_has hr3) trivial trivial rfl rfl rfl rfl rfl rfl rfl) zd256_26 zxt204 rfl (by decide) (by decide) rfl ?_
        refine zv_zeq hB zd256_29 rfl (fun hc4 => ?_) (fun hc4 => ?_)
        · rw [if_pos hc4] at h
          refine zv_iincw hB zd256_42 rfl rfl ?_
          refine zv_goto hB zd256_45 rfl ?_
          exact ih _ _ _ q h hK
        · rw [if_neg hc4] at h
          refine zv_ild hB zd256_32 rfl rfl ?_
          refine zv_ald hB zd256_33 rfl rfl rfl ?_
          refine zv_getr hB zd256_34 rfl ?_
          refine zv_ild hB zd256_37 rfl rfl ?_
          obtain ⟨c5, h⟩ := zi_if h
          refine zv_iald hB zd256_39 rfl rfl (zi_ix_ok c5).1 (zi_ix_ok c5).2 (fun _ _ => ?_)
          refine zv_orw hB zd256_40 ?_
          refine zv_ist hB zd256_41 rfl rfl rfl ?_
          refine zv_iincw hB zd256_42 rfl rfl ?_
          refine zv_goto hB zd256_45 rfl ?_
          exact ih _ _ _ q h hK
  have l0 : ∀ (n : Nat) (x2 : Int) (x3 : Int) (q : Int), zf_M_figureOf_l0 g0 n x2 x3 = some q → (good 51 [.inr 1000, .inr 1000, .inl q, .inr 1000, .inr 1000] [] [] [g0]) → good 6 [.inr 0, .inr 1000, .inl x2, .inl x3, .inr 1000] [] [] [g0] := by
    intro n
    induction n with
    | zero => intro x2 x3 q h; exact absurd (show none = some q from h) (fun h => by cases h)
    | succ n ih =>
      intro x2 x3 q h hK
      replace h : zf_M_figureOf_l0_b g0 (zf_M_figureOf_l0 g0 n) x2 x3 = some q := h
      unfold zf_M_figureOf_l0_b at h
      refine zv_ild hB zd256_6 rfl rfl ?_
      refine zv_ild hB zd256_7 rfl rfl ?_
      refine zv_ceq hB zd256_8 rfl (fun hc1 => ?_) (fun hc1 => ?_)
      · rw [if_pos hc1] at h
        have hq := Option.some.inj h
        subst hq
        refine zv_wk hB (L' := [.inr 1000, .inr 1000, .inl x2, .inr 1000, .inr 1000]) (F' := []) ⟨fun (h : zv_is (.inr 1000)) => (Nat.lt_irrefl 1000 h).elim, fun (h : zv_is (.inr 1000)) => (Nat.lt_irrefl 1000 h).elim, fun _ => rfl, fun (h : zv_is (.inr 1000)) => (Nat.lt_irrefl 1000 h).elim, fun (h : zv_is (.inr 1000)) => (Nat.lt_irrefl 1000 h).elim, trivial⟩ trivial ?_
        exact hK
      · rw [if_neg hc1] at h
        refine zv_ild hB zd256_11 rfl rfl ?_
        refine zv_ist hB zd256_12 rfl rfl rfl ?_
        refine zv_con hB zd256_13 rfl ?_
        refine zv_ist hB zd256_14 rfl rfl rfl ?_
        obtain ⟨q6, hq6, h⟩ := zi_bind h
        refine l1 _ _ _ _ q6 hq6 ?_
        show good 48 [.inr 0, .inr 1000, .inl q6, .inl x2, .inr 1000] [] [] [g0]
        refine zv_goto hB zd256_48 rfl ?_
        exact ih _ _ q h hK
  unfold zf_M_figureOf at h
  refine zv_con hB zd256_0 rfl ?_
  refine zv_ild hB zd256_1 rfl rfl ?_
  refine zv_shlw hB zd256_2 ?_
  refine zv_ist hB zd256_3 rfl rfl rfl ?_
  refine zv_con hB zd256_4 rfl ?_
  refine zv_ist hB zd256_5 rfl rfl rfl ?_
  obtain ⟨q7, hq7, h⟩ := zi_bind h
  refine zv_wk hB (L' := [.inr 0, .inr 1000, .inl (zi_shl 1 x1), .inl 0, .inr 1000]) (F' := []) ⟨fun _ => rfl, fun (h : zv_is (.inr 1000)) => (Nat.lt_irrefl 1000 h).elim, fun _ => rfl, fun _ => rfl, fun (h : zv_is (.inr 1000)) => (Nat.lt_irrefl 1000 h).elim, trivial⟩ trivial ?_
  refine l0 _ _ _ q7 hq7 ?_
  show good 51 [.inr 1000, .inr 1000, .inl q7, .inr 1000, .inr 1000] [] [] [g0]
  refine zv_ild hB zd256_51 rfl rfl ?_
  have hw := Option.some.inj h
  subst hw
  exact hret _ _ _ _ _ zd256_52 (by trivial) ⟨rfl, rfl, rfl⟩
/-! M_bits (I)I -/
-- names: 
-- fields: ; arrays: ; out: [('ret', None)]
abbrev zy_M_bits : zNL := (0, [], [], [], [])
theorem zyw_M_bits : zv_wf zy_M_bits = true := by decide +kernel
theorem zye_M_bits : zv_ek2 zy_M_bits = true := by decide +kernel
def zf_M_bits_l0_b (x0 : Int) (rec : Int → Int → Option (Int)) (x1 : Int) (x2 : Int) : Option (Int) := if x2 < 24 then (rec (zi_w (x1 + (zi_and (zi_shr x0 x2) 1))) (zi_w (x2 + 1))) else (some x1)
def zf_M_bits_l0 (x0 : Int) : Nat → Int → Int → Option (Int)
  | 0, _, _ => none
  | n + 1, x1, x2 => zf_M_bits_l0_b x0 (zf_M_bits_l0 x0 n) x1 x2
def zf_M_bits (x0 : Int) : Option (Int) := (zf_M_bits_l0 x0 zi_fu 0 0).bind fun q2 => (some q2)
theorem zd257_0 : decode zxm257.2.1 0 = .ok (.iconst 0, 1) := by decide +kernel
theorem zd257_1 : decode zxm257.2.1 1 = .ok (.istore_n 1, 1) := by decide +kernel
theorem zd257_2 : decode zxm257.2.1 2 = .ok (.iconst 0, 1) := by decide +kernel
theorem zd257_3 : decode zxm257.2.1 3 = .ok (.istore_n 2, 1) := by decide +kernel
theorem zd257_4 : decode zxm257.2.1 4 = .ok (.iload_n 2, 1) := by decide +kernel
theorem zd257_5 : decode zxm257.2.1 5 = .ok (.bipush 24, 2) := by decide +kernel
theorem zd257_7 : decode zxm257.2.1 7 = .ok (.if_icmp .ge 17, 3) := by decide +kernel
theorem zd257_10 : decode zxm257.2.1 10 = .ok (.iload_n 1, 1) := by decide +kernel
theorem zd257_11 : decode zxm257.2.1 11 = .ok (.iload_n 0, 1) := by decide +kernel
theorem zd257_12 : decode zxm257.2.1 12 = .ok (.iload_n 2, 1) := by decide +kernel
theorem zd257_13 : decode zxm257.2.1 13 = .ok (.ishr, 1) := by decide +kernel
theorem zd257_14 : decode zxm257.2.1 14 = .ok (.iconst 1, 1) := by decide +kernel
theorem zd257_15 : decode zxm257.2.1 15 = .ok (.iand, 1) := by decide +kernel
theorem zd257_16 : decode zxm257.2.1 16 = .ok (.iadd, 1) := by decide +kernel
theorem zd257_17 : decode zxm257.2.1 17 = .ok (.istore_n 1, 1) := by decide +kernel
theorem zd257_18 : decode zxm257.2.1 18 = .ok (.iinc 2 1, 3) := by decide +kernel
theorem zd257_21 : decode zxm257.2.1 21 = .ok (.goto (-17), 3) := by decide +kernel
theorem zd257_24 : decode zxm257.2.1 24 = .ok (.iload_n 1, 1) := by decide +kernel
theorem zd257_25 : decode zxm257.2.1 25 = .ok (.ireturn, 1) := by decide +kernel
theorem zt_M_bits {x0 : Int} {o : Int} (h : zf_M_bits x0 = some o) : zv_Fn z_TB z_cl z_KX zy_M_bits zxm257 (0, 0) [.inl x0] [] [] (some o) [] [] := zv_meth (K := (z_KF13, z_KC13, z_KL13, z_KT13, [], [], [], none)) (FT := z_FT) (MT := z_MT) (n := 1) zxp257 (z_ks13 _ (fun _ h => List.mem_cons_of_mem _ h) _ _ _ _ (fun j r h _ => by cases h)) (fun _ _ => zs_KX_p) zyw_M_bits (fun va F G h => by obtain ⟨rfl, _⟩ := h; rfl) (fun va F G h => by obtain ⟨rfl, _⟩ := h; rfl) rfl fun good va F G hB hret hvret hP => by
  obtain ⟨rfl, rfl, rfl⟩ := hP
  have l0 : ∀ (n : Nat) (x0 : Int) (x1 : Int) (x2 : Int) (q : Int), zf_M_bits_l0 x0 n x1 x2 = some q → (good 24 [.inr 1000, .inl q, .inr 1000] [] [] []) → good 4 [.inl x0, .inl x1, .inl x2] [] [] [] := by
    intro n
    induction n with
    | zero => intro x0 x1 x2 q h; exact absurd (show none = some q from h) (fun h => by cases h)
    | succ n ih =>
      intro x0 x1 x2 q h hK
      replace h : zf_M_bits_l0_b x0 (zf_M_bits_l0 x0 n) x1 x2 = some q := h
      unfold zf_M_bits_l0_b at h
      refine zv_ild hB zd257_4 rfl rfl ?_
      refine zv_con hB zd257_5 rfl ?_
      refine zv_cge hB zd257_7 rfl (fun hc1 => ?_) (fun hc1 => ?_)
      · rw [if_neg (Int.not_lt.mpr hc1)] at h
        have hq := Option.some.inj h
        subst hq
        refine zv_wk hB (L' := [.inr 1000, .inl x1, .inr 1000]) (F' := []) ⟨fun (h : zv_is (.inr 1000)) => (Nat.lt_irrefl 1000 h).elim, fun _ => rfl, fun (h : zv_is (.inr 1000)) => (Nat.lt_irrefl 1000 h).elim, trivial⟩ trivial ?_
        exact hK
      · rw [if_pos hc1] at h
        refine zv_ild hB zd257_10 rfl rfl ?_
        refine zv_ild hB zd257_11 rfl rfl ?_
        refine zv_ild hB zd257_12 rfl rfl ?_
        refine zv_shrw hB zd257_13 ?_
        refine zv_con hB zd257_14 rfl ?_
        refine zv_andw hB zd257_15 ?_
        refine zv_addw hB zd257_16 ?_
        refine zv_ist hB zd257_17 rfl rfl rfl ?_
        refine zv_iincw hB zd257_18 rfl rfl ?_
        refine zv_goto hB zd257_21 rfl ?_
        exact ih _ _ _ q h hK
  unfold zf_M_bits at h
  refine zv_con hB zd257_0 rfl ?_
  refine zv_ist hB zd257_1 rfl rfl rfl ?_
  refine zv_con hB zd257_2 rfl ?_
  refine zv_ist hB zd257_3 rfl rfl rfl ?_
  obtain ⟨q2, hq2, h⟩ := zi_bind h
  refine l0 _ _ _ _ q2 hq2 ?_
  show good 24 [.inr 1000, .inl q2, .inr 1000] [] [] []
  refine zv_ild hB zd257_24 rfl rfl ?_
  have hw := Option.some.inj h
  subst hw
  exact hret _ _ _ _ _ zd257_25 (by trivial) ⟨rfl, rfl, rfl⟩
/-! M_max (II)I -/
-- names: 
-- fields: ; arrays: ; out: [('ret', None)]
abbrev zy_M_max : zNL := (0, [], [], [], [])
theorem zyw_M_max : zv_wf zy_M_max = true := by decide +kernel
theorem zye_M_max : zv_ek2 zy_M_max = true := by decide +kernel
def zf_M_max (x0 : Int) (x1 : Int) : Option (Int) := if x1 < x0 then (some x0) else (some x1)
theorem zd258_0 : decode zxm258.2.1 0 = .ok (.iload_n 0, 1) := by decide +kernel
theorem zd258_1 : decode zxm258.2.1 1 = .ok (.iload_n 1, 1) := by decide +kernel
theorem zd258_2 : decode zxm258.2.1 2 = .ok (.if_icmp .le 7, 3) := by decide +kernel
theorem zd258_5 : decode zxm258.2.1 5 = .ok (.iload_n 0, 1) := by decide +kernel
theorem zd258_6 : decode zxm258.2.1 6 = .ok (.goto 4, 3) := by decide +kernel
theorem zd258_9 : decode zxm258.2.1 9 = .ok (.iload_n 1, 1) := by decide +kernel
theorem zd258_10 : decode zxm258.2.1 10 = .ok (.ireturn, 1) := by decide +kernel
theorem zt_M_max {x0 : Int} {x1 : Int} {o : Int} (h : zf_M_max x0 x1 = some o) : zv_Fn z_TB z_cl z_KX zy_M_max zxm258 (0, 0) [.inl x0, .inl x1] [] [] (some o) [] [] := zv_meth (K := (z_KF13, z_KC13, z_KL13, z_KT13, [], [], [], none)) (FT := z_FT) (MT := z_MT) (n := 2) zxp258 (z_ks13 _ (fun _ h => List.mem_cons_of_mem _ h) _ _ _ _ (fun j r h _ => by cases h)) (fun _ _ => zs_KX_p) zyw_M_max (fun va F G h => by obtain ⟨rfl, _⟩ := h; rfl) (fun va F G h => by obtain ⟨rfl, _⟩ := h; rfl) rfl fun good va F G hB hret hvret hP => by
  obtain ⟨rfl, rfl, rfl⟩ := hP
  unfold zf_M_max at h
  refine zv_ild hB zd258_0 rfl rfl ?_
  refine zv_ild hB zd258_1 rfl rfl ?_
  refine zv_cle hB zd258_2 rfl (fun hc1 => ?_) (fun hc1 => ?_)
  · rw [if_neg (Int.not_lt.mpr hc1)] at h
    refine zv_ild hB zd258_9 rfl rfl ?_
    have hw := Option.some.inj h
    subst hw
    exact hret _ _ _ _ _ zd258_10 (by trivial) ⟨rfl, rfl, rfl⟩
  · rw [if_pos hc1] at h
    refine zv_ild hB zd258_5 rfl rfl ?_
    refine zv_goto hB zd258_6 rfl ?_
    have hw := Option.some.inj h
    subst hw
    exact hret _ _ _ _ _ zd258_10 (by trivial) ⟨rfl, rfl, rfl⟩
/-! M_laysFigures ()V -/
-- names: 0 StarTalesModel('arg', 0), 1 (0, 24)(0, 12, 28)
-- fields: f0 = 0.figures_, f1 = 0.largest_, f2 = 0.seen0_; arrays: g0 = 1; out: [('f', 0), ('f', 1)]
abbrev zy_M_laysFigures : zNL := (2, [(0, 12)], [(0, 12, 29, 0), (0, 12, 30, 1), (0, 12, 27, 2)], [(0, 12, 28, 1)], [(1, 0, 24, 0)])
theorem zyw_M_laysFigures : zv_wf zy_M_laysFigures = true := by decide +kernel
theorem zye_M_laysFigures : zv_ek2 zy_M_laysFigures = true := by decide +kernel
def zf_M_laysFigures_l0_b (g0 : (Int → Int)) (rec : Int → Int → Int → Int → Option (Int × Int)) (x1 : Int) (x2 : Int) (f0 : Int) (f1 : Int) : Option (Int × Int) := if x2 < 24 then ((zf_M_has x1 x2).bind fun r2 => (if r2 = 0 then (rec x1 (zi_w (x2 + 1)) f0 f1) else ((zf_M_figureOf x2 g0).bind fun r4 => ((zf_M_bits r4).bind fun r5 => ((zf_M_max f1 r5).bind fun r6 => (rec (zi_and x1 (zi_xor r4 (-1))) (zi_w (x2 + 1)) (zi_w (f0 + 1)) r6)))))) else (some (f0, f1))
def zf_M_laysFigures_l0 (g0 : (Int → Int)) : Nat → Int → Int → Int → Int → Option (Int × Int)
  | 0, _, _, _, _ => none
  | n + 1, x1, x2, f0, f1 => zf_M_laysFigures_l0_b g0 (zf_M_laysFigures_l0 g0 n) x1 x2 f0 f1
def zf_M_laysFigures (f0 : Int) (f1 : Int) (f2 : Int) (g0 : (Int → Int)) : Option (Int × Int) := (zf_M_laysFigures_l0 g0 zi_fu f2 0 0 0).bind fun q7 => (some (q7.1, q7.2))
theorem zd255_0 : decode zxm255.2.1 0 = .ok (.aload_n 0, 1) := by decide +kernel
theorem zd255_1 : decode zxm255.2.1 1 = .ok (.iconst 0, 1) := by decide +kernel
theorem zd255_2 : decode zxm255.2.1 2 = .ok (.putfield 312, 3) := by decide +kernel
theorem zd255_5 : decode zxm255.2.1 5 = .ok (.aload_n 0, 1) := by decide +kernel
theorem zd255_6 : decode zxm255.2.1 6 = .ok (.iconst 0, 1) := by decide +kernel
theorem zd255_7 : decode zxm255.2.1 7 = .ok (.putfield 315, 3) := by decide +kernel
theorem zd255_10 : decode zxm255.2.1 10 = .ok (.aload_n 0, 1) := by decide +kernel
theorem zd255_11 : decode zxm255.2.1 11 = .ok (.getfield 303, 3) := by decide +kernel
theorem zd255_14 : decode zxm255.2.1 14 = .ok (.istore_n 1, 1) := by decide +kernel
theorem zd255_15 : decode zxm255.2.1 15 = .ok (.iconst 0, 1) := by decide +kernel
theorem zd255_16 : decode zxm255.2.1 16 = .ok (.istore_n 2, 1) := by decide +kernel
theorem zd255_17 : decode zxm255.2.1 17 = .ok (.iload_n 2, 1) := by decide +kernel
theorem zd255_18 : decode zxm255.2.1 18 = .ok (.bipush 24, 2) := by decide +kernel
theorem zd255_20 : decode zxm255.2.1 20 = .ok (.if_icmp .ge 57, 3) := by decide +kernel
theorem zd255_23 : decode zxm255.2.1 23 = .ok (.iload_n 1, 1) := by decide +kernel
theorem zd255_24 : decode zxm255.2.1 24 = .ok (.iload_n 2, 1) := by decide +kernel
theorem zd255_25 : decode zxm255.2.1 25 = .ok (.invokestatic 138, 3) := by decide +kernel
theorem zd255_28 : decode zxm255.2.1 28 = .ok (.ifCond .ne 6, 3) := by decide +kernel
theorem zd255_31 : decode zxm255.2.1 31 = .ok (.goto 40, 3) := by decide +kernel
theorem zd255_34 : decode zxm255.2.1 34 = .ok (.aload_n 0, 1) := by decide +kernel
theorem zd255_35 : decode zxm255.2.1 35 = .ok (.iload_n 2, 1) := by decide +kernel
theorem zd255_36 : decode zxm255.2.1 36 = .ok (.invokevirtual 318, 3) := by decide +kernel
theorem zd255_39 : decode zxm255.2.1 39 = .ok (.istore_n 3, 1) := by decide +kernel
theorem zd255_40 : decode zxm255.2.1 40 = .ok (.iload_n 1, 1) := by decide +kernel
theorem zd255_41 : decode zxm255.2.1 41 = .ok (.iload_n 3, 1) := by decide +kernel
theorem zd255_42 : decode zxm255.2.1 42 = .ok (.iconst (-1), 1) := by decide +kernel
theorem zd255_43 : decode zxm255.2.1 43 = .ok (.ixor, 1) := by decide +kernel
theorem zd255_44 : decode zxm255.2.1 44 = .ok (.iand, 1) := by decide +kernel
theorem zd255_45 : decode zxm255.2.1 45 = .ok (.istore_n 1, 1) := by decide +kernel
theorem zd255_46 : decode zxm255.2.1 46 = .ok (.aload_n 0, 1) := by decide +kernel
theorem zd255_47 : decode zxm255.2.1 47 = .ok (.aload_n 0, 1) := by decide +kernel
theorem zd255_48 : decode zxm255.2.1 48 = .ok (.getfield 312, 3) := by decide +kernel
theorem zd255_51 : decode zxm255.2.1 51 = .ok (.iconst 1, 1) := by decide +kernel
theorem zd255_52 : decode zxm255.2.1 52 = .ok (.iadd, 1) := by decide +kernel
theorem zd255_53 : decode zxm255.2.1 53 = .ok (.putfield 312, 3) := by decide +kernel
theorem zd255_56 : decode zxm255.2.1 56 = .ok (.aload_n 0, 1) := by decide +kernel
theorem zd255_57 : decode zxm255.2.1 57 = .ok (.aload_n 0, 1) := by decide +kernel
theorem zd255_58 : decode zxm255.2.1 58 = .ok (.getfield 315, 3) := by decide +kernel
theorem zd255_61 : decode zxm255.2.1 61 = .ok (.iload_n 3, 1) := by decide +kernel
theorem zd255_62 : decode zxm255.2.1 62 = .ok (.invokestatic 321, 3) := by decide +kernel
theorem zd255_65 : decode zxm255.2.1 65 = .ok (.invokestatic 324, 3) := by decide +kernel
theorem zd255_68 : decode zxm255.2.1 68 = .ok (.putfield 315, 3) := by decide +kernel
theorem zd255_71 : decode zxm255.2.1 71 = .ok (.iinc 2 1, 3) := by decide +kernel
theorem zd255_74 : decode zxm255.2.1 74 = .ok (.goto (-57), 3) := by decide +kernel
theorem zd255_77 : decode zxm255.2.1 77 = .ok (.return_, 1) := by decide +kernel
theorem zt_M_laysFigures {f0 : Int} {f1 : Int} {f2 : Int} {g0 : (Int → Int)} {o : Int × Int} (h : zf_M_laysFigures f0 f1 f2 g0 = some o) : zv_Fn z_TB z_cl z_KX zy_M_laysFigures zxm255 (2, 120) [.inr 0] [.inl f0, .inl f1, .inl f2] [g0] none [.inl o.1, .inl o.2, .inl f2] [g0] := zv_meth (K := (z_KF13, z_KC13, z_KL13, z_KT13, [], [], [], none)) (FT := z_FT) (MT := z_MT) (n := 1) zxp255 (z_ks13 _ (fun _ h => List.mem_cons_of_mem _ h) _ _ _ _ (fun j r h _ => by cases h)) (fun _ _ => zs_KX_p) zyw_M_laysFigures (fun va F G h => by obtain ⟨rfl, _⟩ := h; rfl) (fun va F G h => by obtain ⟨rfl, _⟩ := h; rfl) rfl fun good va F G hB hret hvret hP => by
  obtain ⟨rfl, rfl, rfl⟩ := hP
  have l0 : ∀ (n : Nat) (x1 : Int) (x2 : Int) (f0 : Int) (f1 : Int) (q : Int × Int), zf_M_laysFigures_l0 g0 n x1 x2 f0 f1 = some q → (good 77 [.inr 1000, .inr 1000, .inr 1000, .inr 1000] [] [.inl q.1, .inl q.2, .inl f2] [g0]) → good 17 [.inr 0, .inl x1, .inl x2, .inr 1000] [] [.inl f0, .inl f1, .inl f2] [g0] := by
    intro n
    induction n with
    | zero => intro x1 x2 f0 f1 q h; exact absurd (show none = some q from h) (fun h => by cases h)
    | succ n ih =>
      intro x1 x2 f0 f1 q h hK
      replace h : zf_M_laysFigures_l0_b g0 (zf_M_laysFigures_l0 g0 n) x1 x2 f0 f1 = some q := h
      unfold zf_M_laysFigures_l0_b at h
      refine zv_ild hB zd255_17 rfl rfl ?_
      refine zv_con hB zd255_18 rfl ?_
      refine zv_cge hB zd255_20 rfl (fun hc1 => ?_) (fun hc1 => ?_)
      · rw [if_neg (Int.not_lt.mpr hc1)] at h
        have hq := Option.some.inj h
        subst hq
        refine zv_wk hB (L' := [.inr 1000, .inr 1000, .inr 1000, .inr 1000]) (F' := [.inl f0, .inl f1, .inl f2]) ⟨fun (h : zv_is (.inr 1000)) => (Nat.lt_irrefl 1000 h).elim, fun (h : zv_is (.inr 1000)) => (Nat.lt_irrefl 1000 h).elim, fun (h : zv_is (.inr 1000)) => (Nat.lt_irrefl 1000 h).elim, fun (h : zv_is (.inr 1000)) => (Nat.lt_irrefl 1000 h).elim, trivial⟩ ⟨fun _ => rfl, fun _ => rfl, fun _ => rfl, trivial⟩ ?_
        exact hK
      · rw [if_pos hc1] at h
        refine zv_ild hB zd255_23 rfl rfl ?_
        refine zv_ild hB zd255_24 rfl rfl ?_
        obtain ⟨r2, hr2, h⟩ := zi_bind h
        refine zv_cs hB (zv_emq (va2 := [.inl x1, .inl x2]) (F := [.inl f0, .inl f1, .inl f2]) (F' := [.inl f0, .inl f1, .inl f2]) (G := [g0]) (G' := [g0]) (ρ := []) (φ := []) (ψ := []) [none, none, none] [none] zyw_M_has zyw_M_laysFigures zye_M_laysFigures (by decide +kernel) (zt_M_has hr2) trivial trivial rfl rfl rfl rfl rfl rfl rfl) zd255_25 zxt204 rfl (by decide) (by decide) rfl ?_
        refine zv_zne hB zd255_28 rfl (fun hc3 => ?_) (fun hc3 => ?_)
        · rw [if_neg hc3] at h
          refine zv_ald hB zd255_34 rfl rfl rfl ?_
          refine zv_ild hB zd255_35 rfl rfl ?_
          obtain ⟨r4, hr4, h⟩ := zi_bind h
          refine zv_cv hB (zv_emq (va2 := [.inr 0, .inl x2]) (F := [.inl f0, .inl f1, .inl f2]) (F' := [.inl f0, .inl f1, .inl f2]) (G := [g0]) (G' := [g0]) (ρ := [0, 1]) (φ := []) (ψ := [0]) [none, none, none] [some 0] zyw_M_figureOf zyw_M_laysFigures zye_M_laysFigures (by decide +kernel) (zt_M_figureOf hr4) trivial ⟨rfl, trivial⟩ rfl rfl rfl rfl rfl rfl rfl) zd255_36 zxt256 rfl (by decide) (by decide) rfl ?_
          refine zv_ist hB zd255_39 rfl rfl rfl ?_
          refine zv_ild hB zd255_40 rfl rfl ?_
          refine zv_ild hB zd255_41 rfl rfl ?_
          refine zv_con hB zd255_42 rfl ?_
          refine zv_xorw hB zd255_43 ?_
          refine zv_andw hB zd255_44 ?_
          refine zv_ist hB zd255_45 rfl rfl rfl ?_
          refine zv_ald hB zd255_46 rfl rfl rfl ?_
          refine zv_ald hB zd255_47 rfl rfl rfl ?_
          refine zv_getf hB zd255_48 rfl rfl (fun _ _ => ?_)
          refine zv_con hB zd255_51 rfl ?_
          refine zv_addw hB zd255_52 ?_
          refine zv_putf hB zd255_53 rfl rfl (fun h => by cases h) rfl ?_
          refine zv_ald hB zd255_56 rfl rfl rfl ?_
          refine zv_ald hB zd255_57 rfl rfl rfl ?_
          refine zv_getf hB zd255_58 rfl rfl (fun _ _ => ?_)
          refine zv_ild hB zd255_61 rfl rfl ?_
          obtain ⟨r5, hr5, h⟩ := zi_bind h
          refine zv_cs hB (zv_emq (va2 := [.inl r4]) (F := [.inl (zi_w (f0 + 1)), .inl f1, .inl f2]) (F' := [.inl (zi_w (f0 + 1)), .inl f1, .inl f2]) (G := [g0]) (G' := [g0]) (ρ := []) (φ := []) (ψ := []) [none, none, none] [none] zyw_M_bits zyw_M_laysFigures zye_M_laysFigures (by decide +kernel) (zt_M_bits hr5) trivial trivial rfl rfl rfl rfl rfl rfl rfl) zd255_62 zxt257 rfl (by decide) (by decide) rfl ?_
          obtain ⟨r6, hr6, h⟩ := zi_bind h
          refine zv_cs hB (zv_emq (va2 := [.inl f1, .inl r5]) (F := [.inl (zi_w (f0 + 1)), .inl f1, .inl f2]) (F' := [.inl (zi_w (f0 + 1)), .inl f1, .inl f2]) (G := [g0]) (G' := [g0]) (ρ := []) (φ := []) (ψ := []) [none, none, none] [none] zyw_M_max zyw_M_laysFigures zye_M_laysFigures (by decide +kernel) (zt_M_max hr6) trivial trivial rfl rfl rfl rfl rfl rfl rfl) zd255_65 zxt258 rfl (by decide) (by decide) rfl ?_
          refine zv_putf hB zd255_68 rfl rfl (fun h => by cases h) rfl ?_
          refine zv_iincw hB zd255_71 rfl rfl ?_
          refine zv_goto hB zd255_74 rfl ?_
          refine zv_wk hB (L' := [.inr 0, .inl (zi_and x1 (zi_xor r4 (-1))), .inl (zi_w (x2 + 1)), .inr 1000]) (F' := [.inl (zi_w (f0 + 1)), .inl r6, .inl f2]) ⟨fun _ => rfl, fun _ => rfl, fun _ => rfl, fun (h : zv_is (.inr 1000)) => (Nat.lt_irrefl 1000 h).elim, trivial⟩ ⟨fun _ => rfl, fun _ => rfl, fun _ => rfl, trivial⟩ ?_
          exact ih _ _ _ _ q h hK
        · rw [if_pos hc3] at h
          refine zv_goto hB zd255_31 rfl ?_
          refine zv_iincw hB zd255_71 rfl rfl ?_
          refine zv_goto hB zd255_74 rfl ?_
          exact ih _ _ _ _ q h hK
  unfold zf_M_laysFigures at h
  refine zv_ald hB zd255_0 rfl rfl rfl ?_
  refine zv_con hB zd255_1 rfl ?_
  refine zv_putf hB zd255_2 rfl rfl (fun h => by cases h) rfl ?_
  refine zv_ald hB zd255_5 rfl rfl rfl ?_
  refine zv_con hB zd255_6 rfl ?_
  refine zv_putf hB zd255_7 rfl rfl (fun h => by cases h) rfl ?_
  refine zv_ald hB zd255_10 rfl rfl rfl ?_
  refine zv_getf hB zd255_11 rfl rfl (fun _ _ => ?_)
  refine zv_ist hB zd255_14 rfl rfl rfl ?_
  refine zv_con hB zd255_15 rfl ?_
  refine zv_ist hB zd255_16 rfl rfl rfl ?_
  obtain ⟨q7, hq7, h⟩ := zi_bind h
  refine l0 _ _ _ _ _ q7 hq7 ?_
  show good 77 [.inr 1000, .inr 1000, .inr 1000, .inr 1000] [] [.inl q7.1, .inl q7.2, .inl f2] [g0]
  have hw := Option.some.inj h
  subst hw
  exact hvret _ _ _ _ zd255_77 trivial ⟨rfl, rfl, rfl⟩
