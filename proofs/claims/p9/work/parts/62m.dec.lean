/-! Methods as functions, and that they do what these do. -/
/-! M_steered (IIIZ)I -/
-- names: 0 StarTalesModel('arg', 0), 1 (0, 422)(0, 12, 0), 2 (0, 14)(0, 12, 21), 3 (0, 13)(0, 12, 26), 4 (0, 14)(0, 12, 23), 5 (0, 14)(0, 12, 24), 6 (0, 220)(0, 12, 20), 7 (0, 220)(0, 12, 25), 8 (0, 14)(0, 12, 22)
-- fields: f0 = 0.clauses_; arrays: g0 = 1, g1 = 2, g2 = 3, g3 = 4, g4 = 5, g5 = 6, g6 = 7, g7 = 8; out: [('ret', None), ('g', 0), ('g', 2), ('g', 6)]
abbrev zy_M_steered : zNL := (9, [(0, 12)], [(0, 12, 13, 0)], [(0, 12, 0, 1), (0, 12, 21, 2), (0, 12, 26, 3), (0, 12, 23, 4), (0, 12, 24, 5), (0, 12, 20, 6), (0, 12, 25, 7), (0, 12, 22, 8)], [(1, 0, 422, 0), (2, 0, 14, 1), (3, 0, 13, 2), (4, 0, 14, 3), (5, 0, 14, 4), (6, 0, 220, 5), (7, 0, 220, 6), (8, 0, 14, 7)])
theorem zyw_M_steered : zv_wf zy_M_steered = true := by decide +kernel
theorem zye_M_steered : zv_ek2 zy_M_steered = true := by decide +kernel
def zf_M_steered_l0_b (x1 : Int) (x2 : Int) (x3 : Int) (x4 : Int) (f0 : Int) (g1 : (Int → Int)) (g3 : (Int → Int)) (g4 : (Int → Int)) (g5 : (Int → Int)) (g7 : (Int → Int)) (rec : Int → (Int → Int) → (Int → Int) → (Int → Int) → Option ((Int → Int) × (Int → Int) × (Int → Int))) (x5 : Int) (g0 : (Int → Int)) (g2 : (Int → Int)) (g6 : (Int → Int)) : Option ((Int → Int) × (Int → Int) × (Int → Int)) := if x5 < x3 then ((zf_M_steers x1 x2 x4 f0 g0 g1 g2 g3 g4 g5 g6 g7).bind fun r8 => (rec (zi_w (x5 + 1)) r8.1 r8.2.1 r8.2.2)) else (some (g0, g2, g6))
def zf_M_steered_l0 (x1 : Int) (x2 : Int) (x3 : Int) (x4 : Int) (f0 : Int) (g1 : (Int → Int)) (g3 : (Int → Int)) (g4 : (Int → Int)) (g5 : (Int → Int)) (g7 : (Int → Int)) : Nat → Int → (Int → Int) → (Int → Int) → (Int → Int) → Option ((Int → Int) × (Int → Int) × (Int → Int))
  | 0, _, _, _, _ => none
  | n + 1, x5, g0, g2, g6 => zf_M_steered_l0_b x1 x2 x3 x4 f0 g1 g3 g4 g5 g7 (zf_M_steered_l0 x1 x2 x3 x4 f0 g1 g3 g4 g5 g7 n) x5 g0 g2 g6
def zf_M_steered (x1 : Int) (x2 : Int) (x3 : Int) (x4 : Int) (f0 : Int) (g0 : (Int → Int)) (g1 : (Int → Int)) (g2 : (Int → Int)) (g3 : (Int → Int)) (g4 : (Int → Int)) (g5 : (Int → Int)) (g6 : (Int → Int)) (g7 : (Int → Int)) : Option (Int × (Int → Int) × (Int → Int) × (Int → Int)) := (zf_M_isShip x1 g0).bind fun r1 => (if r1 = 0 then (some ((-1), g0, g2, g6)) else ((zf_M_isTold x2 g0).bind fun r3 => (if r3 = 0 then (some ((-1), g0, g2, g6)) else ((zf_M_in x3 1 48).bind fun r5 => (if r5 = 0 then (some ((-1), g0, g2, g6)) else ((zf_M_steered_l0 x1 x2 x3 x4 f0 g1 g3 g4 g5 g7 zi_fu 0 g0 g2 g6).bind fun q9 => (cond (zi_ix (zi_w (120 + x1)) 422) (some ((q9.1 (zi_w (120 + x1))), q9.1, q9.2.1, q9.2.2)) none)))))))
theorem zd289_0 : decode zxm289.2.1 0 = .ok (.aload_n 0, 1) := by decide +kernel
theorem zd289_1 : decode zxm289.2.1 1 = .ok (.iload_n 1, 1) := by decide +kernel
theorem zd289_2 : decode zxm289.2.1 2 = .ok (.invokevirtual 162, 3) := by decide +kernel
theorem zd289_5 : decode zxm289.2.1 5 = .ok (.ifCond .eq 21, 3) := by decide +kernel
theorem zd289_8 : decode zxm289.2.1 8 = .ok (.aload_n 0, 1) := by decide +kernel
theorem zd289_9 : decode zxm289.2.1 9 = .ok (.iload_n 2, 1) := by decide +kernel
theorem zd289_10 : decode zxm289.2.1 10 = .ok (.invokevirtual 157, 3) := by decide +kernel
theorem zd289_13 : decode zxm289.2.1 13 = .ok (.ifCond .eq 13, 3) := by decide +kernel
theorem zd289_16 : decode zxm289.2.1 16 = .ok (.iload_n 3, 1) := by decide +kernel
theorem zd289_17 : decode zxm289.2.1 17 = .ok (.iconst 1, 1) := by decide +kernel
theorem zd289_18 : decode zxm289.2.1 18 = .ok (.bipush 48, 2) := by decide +kernel
theorem zd289_20 : decode zxm289.2.1 20 = .ok (.invokestatic 150, 3) := by decide +kernel
theorem zd289_23 : decode zxm289.2.1 23 = .ok (.ifCond .ne 5, 3) := by decide +kernel
theorem zd289_26 : decode zxm289.2.1 26 = .ok (.iconst (-1), 1) := by decide +kernel
theorem zd289_27 : decode zxm289.2.1 27 = .ok (.ireturn, 1) := by decide +kernel
theorem zd289_28 : decode zxm289.2.1 28 = .ok (.iconst 0, 1) := by decide +kernel
theorem zd289_29 : decode zxm289.2.1 29 = .ok (.istore 5, 2) := by decide +kernel
theorem zd289_31 : decode zxm289.2.1 31 = .ok (.iload 5, 2) := by decide +kernel
theorem zd289_33 : decode zxm289.2.1 33 = .ok (.iload_n 3, 1) := by decide +kernel
theorem zd289_34 : decode zxm289.2.1 34 = .ok (.if_icmp .ge 17, 3) := by decide +kernel
theorem zd289_37 : decode zxm289.2.1 37 = .ok (.aload_n 0, 1) := by decide +kernel
theorem zd289_38 : decode zxm289.2.1 38 = .ok (.iload_n 1, 1) := by decide +kernel
theorem zd289_39 : decode zxm289.2.1 39 = .ok (.iload_n 2, 1) := by decide +kernel
theorem zd289_40 : decode zxm289.2.1 40 = .ok (.iload 4, 2) := by decide +kernel
theorem zd289_42 : decode zxm289.2.1 42 = .ok (.invokevirtual 430, 3) := by decide +kernel
theorem zd289_45 : decode zxm289.2.1 45 = .ok (.iinc 5 1, 3) := by decide +kernel
theorem zd289_48 : decode zxm289.2.1 48 = .ok (.goto (-17), 3) := by decide +kernel
theorem zd289_51 : decode zxm289.2.1 51 = .ok (.aload_n 0, 1) := by decide +kernel
theorem zd289_52 : decode zxm289.2.1 52 = .ok (.getfield 7, 3) := by decide +kernel
theorem zd289_55 : decode zxm289.2.1 55 = .ok (.bipush 120, 2) := by decide +kernel
theorem zd289_57 : decode zxm289.2.1 57 = .ok (.iload_n 1, 1) := by decide +kernel
theorem zd289_58 : decode zxm289.2.1 58 = .ok (.iadd, 1) := by decide +kernel
theorem zd289_59 : decode zxm289.2.1 59 = .ok (.iaload, 1) := by decide +kernel
theorem zd289_60 : decode zxm289.2.1 60 = .ok (.ireturn, 1) := by decide +kernel
theorem zt_M_steered {x1 : Int} {x2 : Int} {x3 : Int} {x4 : Int} {f0 : Int} {g0 : (Int → Int)} {g1 : (Int → Int)} {g2 : (Int → Int)} {g3 : (Int → Int)} {g4 : (Int → Int)} {g5 : (Int → Int)} {g6 : (Int → Int)} {g7 : (Int → Int)} {o : Int × (Int → Int) × (Int → Int) × (Int → Int)} (h : zf_M_steered x1 x2 x3 x4 f0 g0 g1 g2 g3 g4 g5 g6 g7 = some o) : zv_Fn z_TB z_cl z_KX zy_M_steered zxm289 (6, 360) [.inr 0, .inl x1, .inl x2, .inl x3, .inl x4] [.inl f0] [g0, g1, g2, g3, g4, g5, g6, g7] (some o.1) [.inl f0] [o.2.1, g1, o.2.2.1, g3, g4, g5, o.2.2.2, g7] := zv_meth (K := (z_KF13, z_KC13, z_KL13, z_KT13, [], [], [], none)) (FT := z_FT) (MT := z_MT) (n := 5) zxp289 (z_ks13 _ (fun _ h => List.mem_cons_of_mem _ h) _ _ _ _ (fun j r h _ => by cases h)) (fun _ _ => zs_KX_p) zyw_M_steered (fun va F G h => by obtain ⟨rfl, _⟩ := h; rfl) (fun va F G h => by obtain ⟨rfl, _⟩ := h; rfl) rfl fun good va F G hB hret hvret hP => by
  obtain ⟨rfl, rfl, rfl⟩ := hP
  have l0 : ∀ (n : Nat) (x1 : Int) (x2 : Int) (x3 : Int) (x4 : Int) (x5 : Int) (g0 : (Int → Int)) (g2 : (Int → Int)) (g6 : (Int → Int)) (q : (Int → Int) × (Int → Int) × (Int → Int)), zf_M_steered_l0 x1 x2 x3 x4 f0 g1 g3 g4 g5 g7 n x5 g0 g2 g6 = some q → (good 51 [.inr 0, .inl x1, .inr 1000, .inr 1000, .inr 1000, .inr 1000] [] [.inl f0] [q.1, g1, q.2.1, g3, g4, g5, q.2.2, g7]) → good 31 [.inr 0, .inl x1, .inl x2, .inl x3, .inl x4, .inl x5] [] [.inl f0] [g0, g1, g2, g3, g4, g5, g6, g7] := by
    intro n
    induction n with
    | zero => intro x1 x2 x3 x4 x5 g0 g2 g6 q h; exact absurd (show none = some q from h) (fun h => by cases h)
    | succ n ih =>
      intro x1 x2 x3 x4 x5 g0 g2 g6 q h hK
      replace h : zf_M_steered_l0_b x1 x2 x3 x4 f0 g1 g3 g4 g5 g7 (zf_M_steered_l0 x1 x2 x3 x4 f0 g1 g3 g4 g5 g7 n) x5 g0 g2 g6 = some q := h
      unfold zf_M_steered_l0_b at h
      refine zv_ild hB zd289_31 rfl rfl ?_
      refine zv_ild hB zd289_33 rfl rfl ?_
      refine zv_cge hB zd289_34 rfl (fun hc7 => ?_) (fun hc7 => ?_)
      · rw [if_neg (Int.not_lt.mpr hc7)] at h
        have hq := Option.some.inj h
        subst hq
        refine zv_wk hB (L' := [.inr 0, .inl x1, .inr 1000, .inr 1000, .inr 1000, .inr 1000]) (F' := [.inl f0]) ⟨fun _ => rfl, fun _ => rfl, fun (h : zv_is (.inr 1000)) => (Nat.lt_irrefl 1000 h).elim, fun (h : zv_is (.inr 1000)) => (Nat.lt_irrefl 1000 h).elim, fun (h : zv_is (.inr 1000)) => (Nat.lt_irrefl 1000 h).elim, fun (h : zv_is (.inr 1000)) => (Nat.lt_irrefl 1000 h).elim, trivial⟩ ⟨fun _ => rfl, trivial⟩ ?_
        exact hK
      · rw [if_pos hc7] at h
        refine zv_ald hB zd289_37 rfl rfl rfl ?_
        refine zv_ild hB zd289_38 rfl rfl ?_
        refine zv_ild hB zd289_39 rfl rfl ?_
        refine zv_ild hB zd289_40 rfl rfl ?_
        obtain ⟨r8, hr8, h⟩ := zi_bind h
        refine zv_cv hB (zv_emq (va2 := [.inr 0, .inl x1, .inl x2, .inl x4]) (F := [.inl f0]) (F' := [.inl f0]) (G := [g0, g1, g2, g3, g4, g5, g6, g7]) (G' := [r8.1, g1, r8.2.1, g3, g4, g5, r8.2.2, g7]) (ρ := [0, 1, 2, 3, 4, 5, 6, 7, 8]) (φ := [0]) (ψ := [0, 1, 2, 3, 4, 5, 6, 7]) [some 0] [some 0, some 1, some 2, some 3, some 4, some 5, some 6, some 7] zyw_M_steers zyw_M_steered zye_M_steered (by decide +kernel) (zt_M_steers hr8) ⟨⟨_, rfl, fun _ => rfl⟩, trivial⟩ ⟨rfl, rfl, rfl, rfl, rfl, rfl, rfl, rfl, trivial⟩ rfl rfl rfl rfl rfl rfl rfl) zd289_42 zxt290 rfl (by decide) (by decide) rfl ?_
        refine zv_iincw hB zd289_45 rfl rfl ?_
        refine zv_goto hB zd289_48 rfl ?_
        exact ih _ _ _ _ _ _ _ _ q h hK
  unfold zf_M_steered at h
  refine zv_ald hB zd289_0 rfl rfl rfl ?_
  refine zv_ild hB zd289_1 rfl rfl ?_
  obtain ⟨r1, hr1, h⟩ := zi_bind h
  refine zv_cv hB (zv_emq (va2 := [.inr 0, .inl x1]) (F := [.inl f0]) (F' := [.inl f0]) (G := [g0, g1, g2, g3, g4, g5, g6, g7]) (G' := [g0, g1, g2, g3, g4, g5, g6, g7]) (ρ := [0, 1]) (φ := []) (ψ := [0]) [none] [some 0, none, none, none, none, none, none, none] zyw_M_isShip zyw_M_steered zye_M_steered (by decide +kernel) (zt_M_isShip hr1) trivial ⟨rfl, trivial⟩ rfl rfl rfl rfl rfl rfl rfl) zd289_2 zxt210 rfl (by decide) (by decide) rfl ?_
  refine zv_zeq hB zd289_5 rfl (fun hc2 => ?_) (fun hc2 => ?_)
  · rw [if_pos hc2] at h
    refine zv_con hB zd289_26 rfl ?_
    have hw := Option.some.inj h
    subst hw
    exact hret _ _ _ _ _ zd289_27 (by trivial) ⟨rfl, rfl, rfl⟩
  · rw [if_neg hc2] at h
    refine zv_ald hB zd289_8 rfl rfl rfl ?_
    refine zv_ild hB zd289_9 rfl rfl ?_
    obtain ⟨r3, hr3, h⟩ := zi_bind h
    refine zv_cv hB (zv_emq (va2 := [.inr 0, .inl x2]) (F := [.inl f0]) (F' := [.inl f0]) (G := [g0, g1, g2, g3, g4, g5, g6, g7]) (G' := [g0, g1, g2, g3, g4, g5, g6, g7]) (ρ := [0, 1]) (φ := []) (ψ := [0]) [none] [some 0, none, none, none, none, none, none, none] zyw_M_isTold zyw_M_steered zye_M_steered (by decide +kernel) (zt_M_isTold hr3) trivial ⟨rfl, trivial⟩ rfl rfl rfl rfl rfl rfl rfl) zd289_10 zxt203 rfl (by decide) (by decide) rfl ?_
    refine zv_zeq hB zd289_13 rfl (fun hc4 => ?_) (fun hc4 => ?_)
    · rw [if_pos hc4] at h
      refine zv_con hB zd289_26 rfl ?_
      have hw := Option.some.inj h
      subst hw
      exact hret _ _ _ _ _ zd289_27 (by trivial) ⟨rfl, rfl, rfl⟩
    · rw [if_neg hc4] at h
      refine zv_ild hB zd289_16 rfl rfl ?_
      refine zv_con hB zd289_17 rfl ?_
      refine zv_con hB zd289_18 rfl ?_
      obtain ⟨r5, hr5, h⟩ := zi_bind h
      refine zv_cs hB (zv_emq (va2 := [.inl x3, .inl 1, .inl 48]) (F := [.inl f0]) (F' := [.inl f0]) (G := [g0, g1, g2, g3, g4, g5, g6, g7]) (G' := [g0, g1, g2, g3, g4, g5, g6, g7]) (ρ := []) (φ := []) (ψ := []) [none] [none, none, none, none, none, none, none, none] zyw_M_in zyw_M_steered zye_M_steered (by decide +kernel) (zt_M_in hr5) trivial trivial rfl rfl rfl rfl rfl rfl rfl) zd289_20 zxt200 rfl (by decide) (by decide) rfl ?_
      refine zv_zne hB zd289_23 rfl (fun hc6 => ?_) (fun hc6 => ?_)
      · rw [if_neg hc6] at h
        refine zv_con hB zd289_28 rfl ?_
        refine zv_ist hB zd289_29 rfl rfl rfl ?_
        obtain ⟨q9, hq9, h⟩ := zi_bind h
        refine l0 _ _ _ _ _ _ _ _ _ q9 hq9 ?_
        show good 51 [.inr 0, .inl x1, .inr 1000, .inr 1000, .inr 1000, .inr 1000] [] [.inl f0] [q9.1, g1, q9.2.1, g3, g4, g5, q9.2.2, g7]
        refine zv_ald hB zd289_51 rfl rfl rfl ?_
        refine zv_getr hB zd289_52 rfl ?_
        refine zv_con hB zd289_55 rfl ?_
        refine zv_ild hB zd289_57 rfl rfl ?_
        refine zv_addw hB zd289_58 ?_
        obtain ⟨c10, h⟩ := zi_if h
        refine zv_iald hB zd289_59 rfl rfl (zi_ix_ok c10).1 (zi_ix_ok c10).2 (fun _ _ => ?_)
        have hw := Option.some.inj h
        subst hw
        exact hret _ _ _ _ _ zd289_60 (by trivial) ⟨rfl, rfl, rfl⟩
      · rw [if_pos hc6] at h
        refine zv_con hB zd289_26 rfl ?_
        have hw := Option.some.inj h
        subst hw
        exact hret _ _ _ _ _ zd289_27 (by trivial) ⟨rfl, rfl, rfl⟩
/-! M_hours (I)I -/
-- names: 0 StarTalesModel('arg', 0), 1 (0, 422)(0, 12, 0)
-- fields: ; arrays: g0 = 1; out: [('ret', None), ('g', 0)]
abbrev zy_M_hours : zNL := (2, [(0, 12)], [], [(0, 12, 0, 1)], [(1, 0, 422, 0)])
theorem zyw_M_hours : zv_wf zy_M_hours = true := by decide +kernel
theorem zye_M_hours : zv_ek2 zy_M_hours = true := by decide +kernel
def zf_M_hours_l0_b (x1 : Int) (rec : Int → (Int → Int) → Option ((Int → Int))) (x2 : Int) (g0 : (Int → Int)) : Option ((Int → Int)) := if x2 < x1 then ((zf_M_passes g0).bind fun r4 => (rec (zi_w (x2 + 1)) r4)) else (some g0)
def zf_M_hours_l0 (x1 : Int) : Nat → Int → (Int → Int) → Option ((Int → Int))
  | 0, _, _ => none
  | n + 1, x2, g0 => zf_M_hours_l0_b x1 (zf_M_hours_l0 x1 n) x2 g0
def zf_M_hours (x1 : Int) (g0 : (Int → Int)) : Option (Int × (Int → Int)) := (zf_M_in x1 1 240).bind fun r1 => (if r1 = 0 then (some ((-1), g0)) else ((zf_M_hours_l0 x1 zi_fu 0 g0).bind fun q5 => (some ((q5 129), q5))))
theorem zd297_0 : decode zxm297.2.1 0 = .ok (.iload_n 1, 1) := by decide +kernel
theorem zd297_1 : decode zxm297.2.1 1 = .ok (.iconst 1, 1) := by decide +kernel
theorem zd297_2 : decode zxm297.2.1 2 = .ok (.sipush 240, 3) := by decide +kernel
theorem zd297_5 : decode zxm297.2.1 5 = .ok (.invokestatic 150, 3) := by decide +kernel
theorem zd297_8 : decode zxm297.2.1 8 = .ok (.ifCond .ne 5, 3) := by decide +kernel
theorem zd297_11 : decode zxm297.2.1 11 = .ok (.iconst (-1), 1) := by decide +kernel
theorem zd297_12 : decode zxm297.2.1 12 = .ok (.ireturn, 1) := by decide +kernel
theorem zd297_13 : decode zxm297.2.1 13 = .ok (.iconst 0, 1) := by decide +kernel
theorem zd297_14 : decode zxm297.2.1 14 = .ok (.istore_n 2, 1) := by decide +kernel
theorem zd297_15 : decode zxm297.2.1 15 = .ok (.iload_n 2, 1) := by decide +kernel
theorem zd297_16 : decode zxm297.2.1 16 = .ok (.iload_n 1, 1) := by decide +kernel
theorem zd297_17 : decode zxm297.2.1 17 = .ok (.if_icmp .ge 13, 3) := by decide +kernel
theorem zd297_20 : decode zxm297.2.1 20 = .ok (.aload_n 0, 1) := by decide +kernel
theorem zd297_21 : decode zxm297.2.1 21 = .ok (.invokevirtual 427, 3) := by decide +kernel
theorem zd297_24 : decode zxm297.2.1 24 = .ok (.iinc 2 1, 3) := by decide +kernel
theorem zd297_27 : decode zxm297.2.1 27 = .ok (.goto (-12), 3) := by decide +kernel
theorem zd297_30 : decode zxm297.2.1 30 = .ok (.aload_n 0, 1) := by decide +kernel
theorem zd297_31 : decode zxm297.2.1 31 = .ok (.getfield 7, 3) := by decide +kernel
theorem zd297_34 : decode zxm297.2.1 34 = .ok (.sipush 129, 3) := by decide +kernel
theorem zd297_37 : decode zxm297.2.1 37 = .ok (.iaload, 1) := by decide +kernel
theorem zd297_38 : decode zxm297.2.1 38 = .ok (.ireturn, 1) := by decide +kernel
theorem zt_M_hours {x1 : Int} {g0 : (Int → Int)} {o : Int × (Int → Int)} (h : zf_M_hours x1 g0 = some o) : zv_Fn z_TB z_cl z_KX zy_M_hours zxm297 (4, 240) [.inr 0, .inl x1] [] [g0] (some o.1) [] [o.2] := zv_meth (K := (z_KF13, z_KC13, z_KL13, z_KT13, [], [], [], none)) (FT := z_FT) (MT := z_MT) (n := 2) zxp297 (z_ks13 _ (fun _ h => List.mem_cons_of_mem _ h) _ _ _ _ (fun j r h _ => by cases h)) (fun _ _ => zs_KX_p) zyw_M_hours (fun va F G h => by obtain ⟨rfl, _⟩ := h; rfl) (fun va F G h => by obtain ⟨rfl, _⟩ := h; rfl) rfl fun good va F G hB hret hvret hP => by
  obtain ⟨rfl, rfl, rfl⟩ := hP
  have l0 : ∀ (n : Nat) (x1 : Int) (x2 : Int) (g0 : (Int → Int)) (q : (Int → Int)), zf_M_hours_l0 x1 n x2 g0 = some q → (good 30 [.inr 0, .inr 1000, .inr 1000] [] [] [q]) → good 15 [.inr 0, .inl x1, .inl x2] [] [] [g0] := by
    intro n
    induction n with
    | zero => intro x1 x2 g0 q h; exact absurd (show none = some q from h) (fun h => by cases h)
    | succ n ih =>
      intro x1 x2 g0 q h hK
      replace h : zf_M_hours_l0_b x1 (zf_M_hours_l0 x1 n) x2 g0 = some q := h
      unfold zf_M_hours_l0_b at h
      refine zv_ild hB zd297_15 rfl rfl ?_
      refine zv_ild hB zd297_16 rfl rfl ?_
      refine zv_cge hB zd297_17 rfl (fun hc3 => ?_) (fun hc3 => ?_)
      · rw [if_neg (Int.not_lt.mpr hc3)] at h
        have hq := Option.some.inj h
        subst hq
        refine zv_wk hB (L' := [.inr 0, .inr 1000, .inr 1000]) (F' := []) ⟨fun _ => rfl, fun (h : zv_is (.inr 1000)) => (Nat.lt_irrefl 1000 h).elim, fun (h : zv_is (.inr 1000)) => (Nat.lt_irrefl 1000 h).elim, trivial⟩ trivial ?_
        exact hK
      · rw [if_pos hc3] at h
        refine zv_ald hB zd297_20 rfl rfl rfl ?_
        obtain ⟨r4, hr4, h⟩ := zi_bind h
        refine zv_cv hB (zv_emq (va2 := [.inr 0]) (F := []) (F' := []) (G := [g0]) (G' := [r4]) (ρ := [0, 1]) (φ := []) (ψ := [0]) [] [some 0] zyw_M_passes zyw_M_hours zye_M_hours (by decide +kernel) (zt_M_passes hr4) trivial ⟨rfl, trivial⟩ rfl rfl rfl rfl rfl rfl rfl) zd297_21 zxt294 rfl (by decide) (by decide) rfl ?_
        refine zv_iincw hB zd297_24 rfl rfl ?_
        refine zv_goto hB zd297_27 rfl ?_
        exact ih _ _ _ q h hK
  unfold zf_M_hours at h
  refine zv_ild hB zd297_0 rfl rfl ?_
  refine zv_con hB zd297_1 rfl ?_
  refine zv_con hB zd297_2 rfl ?_
  obtain ⟨r1, hr1, h⟩ := zi_bind h
  refine zv_cs hB (zv_emq (va2 := [.inl x1, .inl 1, .inl 240]) (F := []) (F' := []) (G := [g0]) (G' := [g0]) (ρ := []) (φ := []) (ψ := []) [] [none] zyw_M_in zyw_M_hours zye_M_hours (by decide +kernel) (zt_M_in hr1) trivial trivial rfl rfl rfl rfl rfl rfl rfl) zd297_5 zxt200 rfl (by decide) (by decide) rfl ?_
  refine zv_zne hB zd297_8 rfl (fun hc2 => ?_) (fun hc2 => ?_)
  · rw [if_neg hc2] at h
    refine zv_con hB zd297_13 rfl ?_
    refine zv_ist hB zd297_14 rfl rfl rfl ?_
    obtain ⟨q5, hq5, h⟩ := zi_bind h
    refine l0 _ _ _ _ q5 hq5 ?_
    show good 30 [.inr 0, .inr 1000, .inr 1000] [] [] [q5]
    refine zv_ald hB zd297_30 rfl rfl rfl ?_
    refine zv_getr hB zd297_31 rfl ?_
    refine zv_con hB zd297_34 rfl ?_
    refine zv_iald hB zd297_37 rfl rfl (by decide) (by decide) (fun _ _ => ?_)
    have hw := Option.some.inj h
    subst hw
    exact hret _ _ _ _ _ zd297_38 (by trivial) ⟨rfl, rfl, rfl⟩
  · rw [if_pos hc2] at h
    refine zv_con hB zd297_11 rfl ?_
    have hw := Option.some.inj h
    subst hw
    exact hret _ _ _ _ _ zd297_12 (by trivial) ⟨rfl, rfl, rfl⟩
/-! M_copies_422_422 ([I[I)V -/
-- names: 0 (0, 422)('arg', 0), 1 (0, 422)('arg', 1)
-- fields: ; arrays: g0 = 0, g1 = 1; out: [('g', 1)]
abbrev zy_M_copies_422_422 : zNL := (2, [], [], [], [(0, 0, 422, 0), (1, 0, 422, 1)])
theorem zyw_M_copies_422_422 : zv_wf zy_M_copies_422_422 = true := by decide +kernel
theorem zye_M_copies_422_422 : zv_ek2 zy_M_copies_422_422 = true := by decide +kernel
def zf_M_copies_422_422_l0_b (g0 : (Int → Int)) (rec : Int → (Int → Int) → Option ((Int → Int))) (x2 : Int) (g1 : (Int → Int)) : Option ((Int → Int)) := if x2 < 422 then (cond (zi_ix x2 422) (rec (zi_w (x2 + 1)) (zv_up g1 x2 (g0 x2))) none) else (some g1)
def zf_M_copies_422_422_l0 (g0 : (Int → Int)) : Nat → Int → (Int → Int) → Option ((Int → Int))
  | 0, _, _ => none
  | n + 1, x2, g1 => zf_M_copies_422_422_l0_b g0 (zf_M_copies_422_422_l0 g0 n) x2 g1
def zf_M_copies_422_422 (g0 : (Int → Int)) (g1 : (Int → Int)) : Option ((Int → Int)) := (zf_M_copies_422_422_l0 g0 zi_fu 0 g1).bind fun q3 => (some q3)
theorem zd300_0 : decode zxm300.2.1 0 = .ok (.iconst 0, 1) := by decide +kernel
theorem zd300_1 : decode zxm300.2.1 1 = .ok (.istore_n 2, 1) := by decide +kernel
theorem zd300_2 : decode zxm300.2.1 2 = .ok (.iload_n 2, 1) := by decide +kernel
theorem zd300_3 : decode zxm300.2.1 3 = .ok (.sipush 422, 3) := by decide +kernel
theorem zd300_6 : decode zxm300.2.1 6 = .ok (.if_icmp .ge 15, 3) := by decide +kernel
theorem zd300_9 : decode zxm300.2.1 9 = .ok (.aload_n 1, 1) := by decide +kernel
theorem zd300_10 : decode zxm300.2.1 10 = .ok (.iload_n 2, 1) := by decide +kernel
theorem zd300_11 : decode zxm300.2.1 11 = .ok (.aload_n 0, 1) := by decide +kernel
theorem zd300_12 : decode zxm300.2.1 12 = .ok (.iload_n 2, 1) := by decide +kernel
theorem zd300_13 : decode zxm300.2.1 13 = .ok (.iaload, 1) := by decide +kernel
theorem zd300_14 : decode zxm300.2.1 14 = .ok (.iastore, 1) := by decide +kernel
theorem zd300_15 : decode zxm300.2.1 15 = .ok (.iinc 2 1, 3) := by decide +kernel
theorem zd300_18 : decode zxm300.2.1 18 = .ok (.goto (-16), 3) := by decide +kernel
theorem zd300_21 : decode zxm300.2.1 21 = .ok (.return_, 1) := by decide +kernel
theorem zt_M_copies_422_422 {g0 : (Int → Int)} {g1 : (Int → Int)} {o : (Int → Int)} (h : zf_M_copies_422_422 g0 g1 = some o) : zv_Fn z_TB z_cl z_KX zy_M_copies_422_422 zxm300 (0, 0) [.inr 0, .inr 1] [] [g0, g1] none [] [g0, o] := zv_meth (K := (z_KF13, z_KC13, z_KL13, z_KT13, [], [], [], none)) (FT := z_FT) (MT := z_MT) (n := 2) zxp300 (z_ks13 _ (fun _ h => List.mem_cons_of_mem _ h) _ _ _ _ (fun j r h _ => by cases h)) (fun _ _ => zs_KX_p) zyw_M_copies_422_422 (fun va F G h => by obtain ⟨rfl, _⟩ := h; rfl) (fun va F G h => by obtain ⟨rfl, _⟩ := h; rfl) rfl fun good va F G hB hret hvret hP => by
  obtain ⟨rfl, rfl, rfl⟩ := hP
  have l0 : ∀ (n : Nat) (x2 : Int) (g1 : (Int → Int)) (q : (Int → Int)), zf_M_copies_422_422_l0 g0 n x2 g1 = some q → (good 21 [.inr 1000, .inr 1000, .inr 1000] [] [] [g0, q]) → good 2 [.inr 0, .inr 1, .inl x2] [] [] [g0, g1] := by
    intro n
    induction n with
    | zero => intro x2 g1 q h; exact absurd (show none = some q from h) (fun h => by cases h)
    | succ n ih =>
      intro x2 g1 q h hK
      replace h : zf_M_copies_422_422_l0_b g0 (zf_M_copies_422_422_l0 g0 n) x2 g1 = some q := h
      unfold zf_M_copies_422_422_l0_b at h
      refine zv_ild hB zd300_2 rfl rfl ?_
      refine zv_con hB zd300_3 rfl ?_
      refine zv_cge hB zd300_6 rfl (fun hc1 => ?_) (fun hc1 => ?_)
      · rw [if_neg (Int.not_lt.mpr hc1)] at h
        have hq := Option.some.inj h
        subst hq
        refine zv_wk hB (L' := [.inr 1000, .inr 1000, .inr 1000]) (F' := []) ⟨fun (h : zv_is (.inr 1000)) => (Nat.lt_irrefl 1000 h).elim, fun (h : zv_is (.inr 1000)) => (Nat.lt_irrefl 1000 h).elim, fun (h : zv_is (.inr 1000)) => (Nat.lt_irrefl 1000 h).elim, trivial⟩ trivial ?_
        exact hK
      · rw [if_pos hc1] at h
        refine zv_ald hB zd300_9 rfl rfl rfl ?_
        refine zv_ild hB zd300_10 rfl rfl ?_
        refine zv_ald hB zd300_11 rfl rfl rfl ?_
        refine zv_ild hB zd300_12 rfl rfl ?_
        obtain ⟨c2, h⟩ := zi_if h
        refine zv_iald hB zd300_13 rfl rfl (zi_ix_ok c2).1 (zi_ix_ok c2).2 (fun _ _ => ?_)
        refine zv_iast hB zd300_14 rfl rfl (zi_ix_ok c2).1 (zi_ix_ok c2).2 ?_
        refine zv_iincw hB zd300_15 rfl rfl ?_
        refine zv_goto hB zd300_18 rfl ?_
        exact ih _ _ q h hK
  unfold zf_M_copies_422_422 at h
  refine zv_con hB zd300_0 rfl ?_
  refine zv_ist hB zd300_1 rfl rfl rfl ?_
  obtain ⟨q3, hq3, h⟩ := zi_bind h
  refine l0 _ _ _ q3 hq3 ?_
  show good 21 [.inr 1000, .inr 1000, .inr 1000] [] [] [g0, q3]
  have hw := Option.some.inj h
  subst hw
  exact hvret _ _ _ _ zd300_21 trivial ⟨rfl, rfl, rfl⟩
/-! M_begins ()V -/
-- names: 0 StarTalesModel('arg', 0), 1 (0, 422)(0, 12, 0), 2 (0, 422)(0, 12, 1)
-- fields: ; arrays: g0 = 1, g1 = 2; out: [('g', 1)]
abbrev zy_M_begins : zNL := (3, [(0, 12)], [], [(0, 12, 0, 1), (0, 12, 1, 2)], [(1, 0, 422, 0), (2, 0, 422, 1)])
theorem zyw_M_begins : zv_wf zy_M_begins = true := by decide +kernel
theorem zye_M_begins : zv_ek2 zy_M_begins = true := by decide +kernel
def zf_M_begins (g0 : (Int → Int)) (g1 : (Int → Int)) : Option ((Int → Int)) := (zf_M_copies_422_422 g0 g1).bind fun r1 => (some r1)
theorem zd299_0 : decode zxm299.2.1 0 = .ok (.aload_n 0, 1) := by decide +kernel
theorem zd299_1 : decode zxm299.2.1 1 = .ok (.getfield 7, 3) := by decide +kernel
theorem zd299_4 : decode zxm299.2.1 4 = .ok (.aload_n 0, 1) := by decide +kernel
theorem zd299_5 : decode zxm299.2.1 5 = .ok (.getfield 13, 3) := by decide +kernel
theorem zd299_8 : decode zxm299.2.1 8 = .ok (.invokestatic 134, 3) := by decide +kernel
theorem zd299_11 : decode zxm299.2.1 11 = .ok (.return_, 1) := by decide +kernel
theorem zt_M_begins {g0 : (Int → Int)} {g1 : (Int → Int)} {o : (Int → Int)} (h : zf_M_begins g0 g1 = some o) : zv_Fn z_TB z_cl z_KX zy_M_begins zxm299 (1, 60) [.inr 0] [] [g0, g1] none [] [g0, o] := zv_meth (K := (z_KF13, z_KC13, z_KL13, z_KT13, [], [], [], none)) (FT := z_FT) (MT := z_MT) (n := 1) zxp299 (z_ks13 _ (fun _ h => List.mem_cons_of_mem _ h) _ _ _ _ (fun j r h _ => by cases h)) (fun _ _ => zs_KX_p) zyw_M_begins (fun va F G h => by obtain ⟨rfl, _⟩ := h; rfl) (fun va F G h => by obtain ⟨rfl, _⟩ := h; rfl) rfl fun good va F G hB hret hvret hP => by
  obtain ⟨rfl, rfl, rfl⟩ := hP
  unfold zf_M_begins at h
  refine zv_ald hB zd299_0 rfl rfl rfl ?_
  refine zv_getr hB zd299_1 rfl ?_
  refine zv_ald hB zd299_4 rfl rfl rfl ?_
  refine zv_getr hB zd299_5 rfl ?_
  obtain ⟨r1, hr1, h⟩ := zi_bind h
  refine zv_cs hB (zv_emq (va2 := [.inr 1, .inr 2]) (F := []) (F' := []) (G := [g0, g1]) (G' := [g0, r1]) (ρ := [1, 2]) (φ := []) (ψ := [0, 1]) [] [some 0, some 1] zyw_M_copies_422_422 zyw_M_begins zye_M_begins (by decide +kernel) (zt_M_copies_422_422 hr1) trivial ⟨rfl, rfl, trivial⟩ rfl rfl rfl rfl rfl rfl rfl) zd299_8 zxt300 rfl (by decide) (by decide) rfl ?_
  have hw := Option.some.inj h
  subst hw
  exact hvret _ _ _ _ zd299_11 trivial ⟨rfl, rfl, rfl⟩
/-! M_again ()V -/
-- names: 0 StarTalesModel('arg', 0), 1 (0, 422)(0, 12, 1), 2 (0, 422)(0, 12, 0)
-- fields: ; arrays: g0 = 1, g1 = 2; out: [('g', 1)]
abbrev zy_M_again : zNL := (3, [(0, 12)], [], [(0, 12, 1, 1), (0, 12, 0, 2)], [(1, 0, 422, 0), (2, 0, 422, 1)])
theorem zyw_M_again : zv_wf zy_M_again = true := by decide +kernel
theorem zye_M_again : zv_ek2 zy_M_again = true := by decide +kernel
def zf_M_again (g0 : (Int → Int)) (g1 : (Int → Int)) : Option ((Int → Int)) := (zf_M_copies_422_422 g0 g1).bind fun r1 => (some r1)
theorem zd301_0 : decode zxm301.2.1 0 = .ok (.aload_n 0, 1) := by decide +kernel
theorem zd301_1 : decode zxm301.2.1 1 = .ok (.getfield 13, 3) := by decide +kernel
theorem zd301_4 : decode zxm301.2.1 4 = .ok (.aload_n 0, 1) := by decide +kernel
theorem zd301_5 : decode zxm301.2.1 5 = .ok (.getfield 7, 3) := by decide +kernel
theorem zd301_8 : decode zxm301.2.1 8 = .ok (.invokestatic 134, 3) := by decide +kernel
theorem zd301_11 : decode zxm301.2.1 11 = .ok (.return_, 1) := by decide +kernel
theorem zt_M_again {g0 : (Int → Int)} {g1 : (Int → Int)} {o : (Int → Int)} (h : zf_M_again g0 g1 = some o) : zv_Fn z_TB z_cl z_KX zy_M_again zxm301 (1, 60) [.inr 0] [] [g0, g1] none [] [g0, o] := zv_meth (K := (z_KF13, z_KC13, z_KL13, z_KT13, [], [], [], none)) (FT := z_FT) (MT := z_MT) (n := 1) zxp301 (z_ks13 _ (fun _ h => List.mem_cons_of_mem _ h) _ _ _ _ (fun j r h _ => by cases h)) (fun _ _ => zs_KX_p) zyw_M_again (fun va F G h => by obtain ⟨rfl, _⟩ := h; rfl) (fun va F G h => by obtain ⟨rfl, _⟩ := h; rfl) rfl fun good va F G hB hret hvret hP => by
  obtain ⟨rfl, rfl, rfl⟩ := hP
  unfold zf_M_again at h
  refine zv_ald hB zd301_0 rfl rfl rfl ?_
  refine zv_getr hB zd301_1 rfl ?_
  refine zv_ald hB zd301_4 rfl rfl rfl ?_
  refine zv_getr hB zd301_5 rfl ?_
  obtain ⟨r1, hr1, h⟩ := zi_bind h
  refine zv_cs hB (zv_emq (va2 := [.inr 1, .inr 2]) (F := []) (F' := []) (G := [g0, g1]) (G' := [g0, r1]) (ρ := [1, 2]) (φ := []) (ψ := [0, 1]) [] [some 0, some 1] zyw_M_copies_422_422 zyw_M_again zye_M_again (by decide +kernel) (zt_M_copies_422_422 hr1) trivial ⟨rfl, rfl, trivial⟩ rfl rfl rfl rfl rfl rfl rfl) zd301_8 zxt300 rfl (by decide) (by decide) rfl ?_
  have hw := Option.some.inj h
  subst hw
  exact hvret _ _ _ _ zd301_11 trivial ⟨rfl, rfl, rfl⟩
/-! M_found ()I -/
-- names: 0 StarTalesModel('arg', 0), 1 (0, 422)(0, 12, 0), 2 (0, 422)(0, 12, 1), 3 (1, 220)(0, 12, 3)
-- fields: f0 = 0.taped_; arrays: g0 = 1, g1 = 2, g2 = 3; out: [('ret', None), ('f', 0), ('g', 0), ('g', 1)]
abbrev zy_M_found : zNL := (4, [(0, 12)], [(0, 12, 4, 0)], [(0, 12, 0, 1), (0, 12, 1, 2), (0, 12, 3, 3)], [(1, 0, 422, 0), (2, 0, 422, 1), (3, 1, 220, 2)])
theorem zyw_M_found : zv_wf zy_M_found = true := by decide +kernel
theorem zye_M_found : zv_ek2 zy_M_found = true := by decide +kernel
def zf_M_found_l0_b (g0 : (Int → Int)) (g2 : (Int → Int)) (rec : Int → Int → Int → Option (Int)) (x1 : Int) (x2 : Int) (x3 : Int) : Option (Int) := if x3 < 24 then ((zf_M_isTold x3 g0).bind fun r7 => (if r7 = 0 then (rec x1 x2 (zi_w (x3 + 1))) else (cond (zi_ix x2 220) (cond (zi_ix (zi_w (0 + x3)) 422) (if (zi_and (g2 x2) 255) = (g0 (zi_w (0 + x3))) then (cond (zi_ix (zi_w (x2 + 1)) 220) (cond (zi_ix (zi_w (24 + x3)) 422) (if (zi_and (g2 (zi_w (x2 + 1))) 255) = (g0 (zi_w (24 + x3))) then (rec x1 (zi_w (x2 + 2)) (zi_w (x3 + 1))) else (rec (zi_or x1 (zi_shl 1 x3)) (zi_w (x2 + 2)) (zi_w (x3 + 1)))) none) none) else (rec (zi_or x1 (zi_shl 1 x3)) (zi_w (x2 + 2)) (zi_w (x3 + 1)))) none) none))) else (some x1)
def zf_M_found_l0 (g0 : (Int → Int)) (g2 : (Int → Int)) : Nat → Int → Int → Int → Option (Int)
  | 0, _, _, _ => none
  | n + 1, x1, x2, x3 => zf_M_found_l0_b g0 g2 (zf_M_found_l0 g0 g2 n) x1 x2 x3
def zf_M_found (f0 : Int) (g0 : (Int → Int)) (g1 : (Int → Int)) (g2 : (Int → Int)) : Option (Int × Int × (Int → Int) × (Int → Int)) := if (g0 126) = 0 then (some ((-1), f0, g0, g1)) else ((zf_M_bits (g0 126)).bind fun r2 => (if f0 < (zi_w (2 * r2)) then (some ((-1), f0, g0, g1)) else ((zf_M_begins g0 g1).bind fun r4 => ((zf_M_walks g0).bind fun r5 => ((zf_M_found_l0 r5 g2 zi_fu 0 0 0).bind fun q15 => ((zf_M_again r4 r5).bind fun r16 => (some (q15, 0, r16, r4))))))))
theorem zd298_0 : decode zxm298.2.1 0 = .ok (.aload_n 0, 1) := by decide +kernel
theorem zd298_1 : decode zxm298.2.1 1 = .ok (.getfield 7, 3) := by decide +kernel
theorem zd298_4 : decode zxm298.2.1 4 = .ok (.bipush 126, 2) := by decide +kernel
theorem zd298_6 : decode zxm298.2.1 6 = .ok (.iaload, 1) := by decide +kernel
theorem zd298_7 : decode zxm298.2.1 7 = .ok (.ifCond .eq 22, 3) := by decide +kernel
theorem zd298_10 : decode zxm298.2.1 10 = .ok (.iconst 2, 1) := by decide +kernel
theorem zd298_11 : decode zxm298.2.1 11 = .ok (.aload_n 0, 1) := by decide +kernel
theorem zd298_12 : decode zxm298.2.1 12 = .ok (.getfield 7, 3) := by decide +kernel
theorem zd298_15 : decode zxm298.2.1 15 = .ok (.bipush 126, 2) := by decide +kernel
theorem zd298_17 : decode zxm298.2.1 17 = .ok (.iaload, 1) := by decide +kernel
theorem zd298_18 : decode zxm298.2.1 18 = .ok (.invokestatic 321, 3) := by decide +kernel
theorem zd298_21 : decode zxm298.2.1 21 = .ok (.imul, 1) := by decide +kernel
theorem zd298_22 : decode zxm298.2.1 22 = .ok (.aload_n 0, 1) := by decide +kernel
theorem zd298_23 : decode zxm298.2.1 23 = .ok (.getfield 168, 3) := by decide +kernel
theorem zd298_26 : decode zxm298.2.1 26 = .ok (.if_icmp .le 5, 3) := by decide +kernel
theorem zd298_29 : decode zxm298.2.1 29 = .ok (.iconst (-1), 1) := by decide +kernel
theorem zd298_30 : decode zxm298.2.1 30 = .ok (.ireturn, 1) := by decide +kernel
theorem zd298_31 : decode zxm298.2.1 31 = .ok (.aload_n 0, 1) := by decide +kernel
theorem zd298_32 : decode zxm298.2.1 32 = .ok (.iconst 0, 1) := by decide +kernel
theorem zd298_33 : decode zxm298.2.1 33 = .ok (.putfield 168, 3) := by decide +kernel
theorem zd298_36 : decode zxm298.2.1 36 = .ok (.aload_n 0, 1) := by decide +kernel
theorem zd298_37 : decode zxm298.2.1 37 = .ok (.invokevirtual 434, 3) := by decide +kernel
theorem zd298_40 : decode zxm298.2.1 40 = .ok (.aload_n 0, 1) := by decide +kernel
theorem zd298_41 : decode zxm298.2.1 41 = .ok (.invokevirtual 414, 3) := by decide +kernel
theorem zd298_44 : decode zxm298.2.1 44 = .ok (.iconst 0, 1) := by decide +kernel
theorem zd298_45 : decode zxm298.2.1 45 = .ok (.istore_n 1, 1) := by decide +kernel
theorem zd298_46 : decode zxm298.2.1 46 = .ok (.iconst 0, 1) := by decide +kernel
theorem zd298_47 : decode zxm298.2.1 47 = .ok (.istore_n 2, 1) := by decide +kernel
theorem zd298_48 : decode zxm298.2.1 48 = .ok (.iconst 0, 1) := by decide +kernel
theorem zd298_49 : decode zxm298.2.1 49 = .ok (.istore_n 3, 1) := by decide +kernel
theorem zd298_50 : decode zxm298.2.1 50 = .ok (.iload_n 3, 1) := by decide +kernel
theorem zd298_51 : decode zxm298.2.1 51 = .ok (.bipush 24, 2) := by decide +kernel
theorem zd298_53 : decode zxm298.2.1 53 = .ok (.if_icmp .ge 75, 3) := by decide +kernel
theorem zd298_56 : decode zxm298.2.1 56 = .ok (.aload_n 0, 1) := by decide +kernel
theorem zd298_57 : decode zxm298.2.1 57 = .ok (.iload_n 3, 1) := by decide +kernel
theorem zd298_58 : decode zxm298.2.1 58 = .ok (.invokevirtual 157, 3) := by decide +kernel
theorem zd298_61 : decode zxm298.2.1 61 = .ok (.ifCond .ne 6, 3) := by decide +kernel
theorem zd298_64 : decode zxm298.2.1 64 = .ok (.goto 58, 3) := by decide +kernel
theorem zd298_67 : decode zxm298.2.1 67 = .ok (.aload_n 0, 1) := by decide +kernel
theorem zd298_68 : decode zxm298.2.1 68 = .ok (.getfield 19, 3) := by decide +kernel
theorem zd298_71 : decode zxm298.2.1 71 = .ok (.iload_n 2, 1) := by decide +kernel
theorem zd298_72 : decode zxm298.2.1 72 = .ok (.baload, 1) := by decide +kernel
theorem zd298_73 : decode zxm298.2.1 73 = .ok (.sipush 255, 3) := by decide +kernel
theorem zd298_76 : decode zxm298.2.1 76 = .ok (.iand, 1) := by decide +kernel
theorem zd298_77 : decode zxm298.2.1 77 = .ok (.aload_n 0, 1) := by decide +kernel
theorem zd298_78 : decode zxm298.2.1 78 = .ok (.getfield 7, 3) := by decide +kernel
theorem zd298_81 : decode zxm298.2.1 81 = .ok (.iconst 0, 1) := by decide +kernel
theorem zd298_82 : decode zxm298.2.1 82 = .ok (.iload_n 3, 1) := by decide +kernel
theorem zd298_83 : decode zxm298.2.1 83 = .ok (.iadd, 1) := by decide +kernel
theorem zd298_84 : decode zxm298.2.1 84 = .ok (.iaload, 1) := by decide +kernel
theorem zd298_85 : decode zxm298.2.1 85 = .ok (.if_icmp .ne 27, 3) := by decide +kernel
theorem zd298_88 : decode zxm298.2.1 88 = .ok (.aload_n 0, 1) := by decide +kernel
theorem zd298_89 : decode zxm298.2.1 89 = .ok (.getfield 19, 3) := by decide +kernel
theorem zd298_92 : decode zxm298.2.1 92 = .ok (.iload_n 2, 1) := by decide +kernel
theorem zd298_93 : decode zxm298.2.1 93 = .ok (.iconst 1, 1) := by decide +kernel
theorem zd298_94 : decode zxm298.2.1 94 = .ok (.iadd, 1) := by decide +kernel
theorem zd298_95 : decode zxm298.2.1 95 = .ok (.baload, 1) := by decide +kernel
theorem zd298_96 : decode zxm298.2.1 96 = .ok (.sipush 255, 3) := by decide +kernel
theorem zd298_99 : decode zxm298.2.1 99 = .ok (.iand, 1) := by decide +kernel
theorem zd298_100 : decode zxm298.2.1 100 = .ok (.aload_n 0, 1) := by decide +kernel
theorem zd298_101 : decode zxm298.2.1 101 = .ok (.getfield 7, 3) := by decide +kernel
theorem zd298_104 : decode zxm298.2.1 104 = .ok (.bipush 24, 2) := by decide +kernel
theorem zd298_106 : decode zxm298.2.1 106 = .ok (.iload_n 3, 1) := by decide +kernel
theorem zd298_107 : decode zxm298.2.1 107 = .ok (.iadd, 1) := by decide +kernel
theorem zd298_108 : decode zxm298.2.1 108 = .ok (.iaload, 1) := by decide +kernel
theorem zd298_109 : decode zxm298.2.1 109 = .ok (.if_icmp .eq 9, 3) := by decide +kernel
theorem zd298_112 : decode zxm298.2.1 112 = .ok (.iload_n 1, 1) := by decide +kernel
theorem zd298_113 : decode zxm298.2.1 113 = .ok (.iconst 1, 1) := by decide +kernel
theorem zd298_114 : decode zxm298.2.1 114 = .ok (.iload_n 3, 1) := by decide +kernel
theorem zd298_115 : decode zxm298.2.1 115 = .ok (.ishl, 1) := by decide +kernel
theorem zd298_116 : decode zxm298.2.1 116 = .ok (.ior, 1) := by decide +kernel
theorem zd298_117 : decode zxm298.2.1 117 = .ok (.istore_n 1, 1) := by decide +kernel
theorem zd298_118 : decode zxm298.2.1 118 = .ok (.iload_n 2, 1) := by decide +kernel
theorem zd298_119 : decode zxm298.2.1 119 = .ok (.iconst 2, 1) := by decide +kernel
theorem zd298_120 : decode zxm298.2.1 120 = .ok (.iadd, 1) := by decide +kernel
theorem zd298_121 : decode zxm298.2.1 121 = .ok (.istore_n 2, 1) := by decide +kernel
theorem zd298_122 : decode zxm298.2.1 122 = .ok (.iinc 3 1, 3) := by decide +kernel
theorem zd298_125 : decode zxm298.2.1 125 = .ok (.goto (-75), 3) := by decide +kernel
theorem zd298_128 : decode zxm298.2.1 128 = .ok (.aload_n 0, 1) := by decide +kernel
theorem zd298_129 : decode zxm298.2.1 129 = .ok (.invokevirtual 437, 3) := by decide +kernel
theorem zd298_132 : decode zxm298.2.1 132 = .ok (.iload_n 1, 1) := by decide +kernel
theorem zd298_133 : decode zxm298.2.1 133 = .ok (.ireturn, 1) := by decide +kernel
theorem zt_M_found {f0 : Int} {g0 : (Int → Int)} {g1 : (Int → Int)} {g2 : (Int → Int)} {o : Int × Int × (Int → Int) × (Int → Int)} (h : zf_M_found f0 g0 g1 g2 = some o) : zv_Fn z_TB z_cl z_KX zy_M_found zxm298 (3, 180) [.inr 0] [.inl f0] [g0, g1, g2] (some o.1) [.inl o.2.1] [o.2.2.1, o.2.2.2, g2] := zv_meth (K := (z_KF13, z_KC13, z_KL13, z_KT13, [], [], [], none)) (FT := z_FT) (MT := z_MT) (n := 1) zxp298 (z_ks13 _ (fun _ h => List.mem_cons_of_mem _ h) _ _ _ _ (fun j r h _ => by cases h)) (fun _ _ => zs_KX_p) zyw_M_found (fun va F G h => by obtain ⟨rfl, _⟩ := h; rfl) (fun va F G h => by obtain ⟨rfl, _⟩ := h; rfl) rfl fun good va F G hB hret hvret hP => by
  obtain ⟨rfl, rfl, rfl⟩ := hP
  have l0 : ∀ (n : Nat) (x1 : Int) (x2 : Int) (x3 : Int) (f0 : Int) (g0 : (Int → Int)) (g1 : (Int → Int)) (q : Int), zf_M_found_l0 g0 g2 n x1 x2 x3 = some q → (good 128 [.inr 0, .inl q, .inr 1000, .inr 1000] [] [.inl f0] [g0, g1, g2]) → good 50 [.inr 0, .inl x1, .inl x2, .inl x3] [] [.inl f0] [g0, g1, g2] := by
    intro n
    induction n with
    | zero => intro x1 x2 x3 f0 g0 g1 q h; exact absurd (show none = some q from h) (fun h => by cases h)
    | succ n ih =>
      intro x1 x2 x3 f0 g0 g1 q h hK
      replace h : zf_M_found_l0_b g0 g2 (zf_M_found_l0 g0 g2 n) x1 x2 x3 = some q := h
      unfold zf_M_found_l0_b at h
      refine zv_ild hB zd298_50 rfl rfl ?_
      refine zv_con hB zd298_51 rfl ?_
      refine zv_cge hB zd298_53 rfl (fun hc6 => ?_) (fun hc6 => ?_)
      · rw [if_neg (Int.not_lt.mpr hc6)] at h
        have hq := Option.some.inj h
        subst hq
        refine zv_wk hB (L' := [.inr 0, .inl x1, .inr 1000, .inr 1000]) (F' := [.inl f0]) ⟨fun _ => rfl, fun _ => rfl, fun (h : zv_is (.inr 1000)) => (Nat.lt_irrefl 1000 h).elim, fun (h : zv_is (.inr 1000)) => (Nat.lt_irrefl 1000 h).elim, trivial⟩ ⟨fun _ => rfl, trivial⟩ ?_
        exact hK
      · rw [if_pos hc6] at h
        refine zv_ald hB zd298_56 rfl rfl rfl ?_
        refine zv_ild hB zd298_57 rfl rfl ?_
        obtain ⟨r7, hr7, h⟩ := zi_bind h
        refine zv_cv hB (zv_emq (va2 := [.inr 0, .inl x3]) (F := [.inl f0]) (F' := [.inl f0]) (G := [g0, g1, g2]) (G' := [g0, g1, g2]) (ρ := [0, 1]) (φ := []) (ψ := [0]) [none] [some 0, none, none] zyw_M_isTold zyw_M_found zye_M_found (by decide +kernel) (zt_M_isTold hr7) trivial ⟨rfl, trivial⟩ rfl rfl rfl rfl rfl rfl rfl) zd298_58 zxt203 rfl (by decide) (by decide) rfl ?_
        refine zv_zne hB zd298_61 rfl (fun hc8 => ?_) (fun hc8 => ?_)
        · rw [if_neg hc8] at h
          refine zv_ald hB zd298_67 rfl rfl rfl ?_
          refine zv_getr hB zd298_68 rfl ?_
          refine zv_ild hB zd298_71 rfl rfl ?_
          obtain ⟨c9, h⟩ := zi_if h
          refine zv_bald hB zd298_72 rfl rfl (zi_ix_ok c9).1 (zi_ix_ok c9).2 (fun _ _ => ?_)
          refine zv_con hB zd298_73 rfl ?_
          refine zv_andw hB zd298_76 ?_
          refine zv_ald hB zd298_77 rfl rfl rfl ?_
          refine zv_getr hB zd298_78 rfl ?_
          refine zv_con hB zd298_81 rfl ?_
          refine zv_ild hB zd298_82 rfl rfl ?_
          refine zv_addw hB zd298_83 ?_
          obtain ⟨c10, h⟩ := zi_if h
          refine zv_iald hB zd298_84 rfl rfl (zi_ix_ok c10).1 (zi_ix_ok c10).2 (fun _ _ => ?_)
          refine zv_cne hB zd298_85 rfl (fun hc11 => ?_) (fun hc11 => ?_)
          · rw [if_neg hc11] at h
            refine zv_ild hB zd298_112 rfl rfl ?_
            refine zv_con hB zd298_113 rfl ?_
            refine zv_ild hB zd298_114 rfl rfl ?_
            refine zv_shlw hB zd298_115 ?_
            refine zv_orw hB zd298_116 ?_
            refine zv_ist hB zd298_117 rfl rfl rfl ?_
            refine zv_ild hB zd298_118 rfl rfl ?_
            refine zv_con hB zd298_119 rfl ?_
            refine zv_addw hB zd298_120 ?_
            refine zv_ist hB zd298_121 rfl rfl rfl ?_
            refine zv_iincw hB zd298_122 rfl rfl ?_
            refine zv_goto hB zd298_125 rfl ?_
            exact ih _ _ _ _ _ _ q h hK
          · rw [if_pos hc11] at h
            refine zv_ald hB zd298_88 rfl rfl rfl ?_
            refine zv_getr hB zd298_89 rfl ?_
            refine zv_ild hB zd298_92 rfl rfl ?_
            refine zv_con hB zd298_93 rfl ?_
            refine zv_addw hB zd298_94 ?_
            obtain ⟨c12, h⟩ := zi_if h
            refine zv_bald hB zd298_95 rfl rfl (zi_ix_ok c12).1 (zi_ix_ok c12).2 (fun _ _ => ?_)
            refine zv_con hB zd298_96 rfl ?_
            refine zv_andw hB zd298_99 ?_
            refine zv_ald hB zd298_100 rfl rfl rfl ?_
            refine zv_getr hB zd298_101 rfl ?_
            refine zv_con hB zd298_104 rfl ?_
            refine zv_ild hB zd298_106 rfl rfl ?_
            refine zv_addw hB zd298_107 ?_
            obtain ⟨c13, h⟩ := zi_if h
            refine zv_iald hB zd298_108 rfl rfl (zi_ix_ok c13).1 (zi_ix_ok c13).2 (fun _ _ => ?_)
            refine zv_ceq hB zd298_109 rfl (fun hc14 => ?_) (fun hc14 => ?_)
            · rw [if_pos hc14] at h
              refine zv_ild hB zd298_118 rfl rfl ?_
              refine zv_con hB zd298_119 rfl ?_
              refine zv_addw hB zd298_120 ?_
              refine zv_ist hB zd298_121 rfl rfl rfl ?_
              refine zv_iincw hB zd298_122 rfl rfl ?_
              refine zv_goto hB zd298_125 rfl ?_
              exact ih _ _ _ _ _ _ q h hK
            · rw [if_neg hc14] at h
              refine zv_ild hB zd298_112 rfl rfl ?_
              refine zv_con hB zd298_113 rfl ?_
              refine zv_ild hB zd298_114 rfl rfl ?_
              refine zv_shlw hB zd298_115 ?_
              refine zv_orw hB zd298_116 ?_
              refine zv_ist hB zd298_117 rfl rfl rfl ?_
              refine zv_ild hB zd298_118 rfl rfl ?_
              refine zv_con hB zd298_119 rfl ?_
              refine zv_addw hB zd298_120 ?_
              refine zv_ist hB zd298_121 rfl rfl rfl ?_
              refine zv_iincw hB zd298_122 rfl rfl ?_
              refine zv_goto hB zd298_125 rfl ?_
              exact ih _ _ _ _ _ _ q h hK
        · rw [if_pos hc8] at h
          refine zv_goto hB zd298_64 rfl ?_
          refine zv_iincw hB zd298_122 rfl rfl ?_
          refine zv_goto hB zd298_125 rfl ?_
          exact ih _ _ _ _ _ _ q h hK
  unfold zf_M_found at h
  refine zv_ald hB zd298_0 rfl rfl rfl ?_
  refine zv_getr hB zd298_1 rfl ?_
  refine zv_con hB zd298_4 rfl ?_
  refine zv_iald hB zd298_6 rfl rfl (by decide) (by decide) (fun _ _ => ?_)
  refine zv_zeq hB zd298_7 rfl (fun hc1 => ?_) (fun hc1 => ?_)
  · rw [if_pos hc1] at h
    refine zv_con hB zd298_29 rfl ?_
    have hw := Option.some.inj h
    subst hw
    exact hret _ _ _ _ _ zd298_30 (by trivial) ⟨rfl, rfl, rfl⟩
  · rw [if_neg hc1] at h
    refine zv_con hB zd298_10 rfl ?_
    refine zv_ald hB zd298_11 rfl rfl rfl ?_
    refine zv_getr hB zd298_12 rfl ?_
    refine zv_con hB zd298_15 rfl ?_
    refine zv_iald hB zd298_17 rfl rfl (by decide) (by decide) (fun _ _ => ?_)
    obtain ⟨r2, hr2, h⟩ := zi_bind h
    refine zv_cs hB (zv_emq (va2 := [.inl (g0 126)]) (F := [.inl f0]) (F' := [.inl f0]) (G := [g0, g1, g2]) (G' := [g0, g1, g2]) (ρ := []) (φ := []) (ψ := []) [none] [none, none, none] zyw_M_bits zyw_M_found zye_M_found (by decide +kernel) (zt_M_bits hr2) trivial trivial rfl rfl rfl rfl rfl rfl rfl) zd298_18 zxt257 rfl (by decide) (by decide) rfl ?_
    refine zv_mulw hB zd298_21 ?_
    refine zv_ald hB zd298_22 rfl rfl rfl ?_
    refine zv_getf hB zd298_23 rfl rfl (fun _ _ => ?_)
    refine zv_cle hB zd298_26 rfl (fun hc3 => ?_) (fun hc3 => ?_)
    · rw [if_neg (Int.not_lt.mpr hc3)] at h
      refine zv_ald hB zd298_31 rfl rfl rfl ?_
      refine zv_con hB zd298_32 rfl ?_
      refine zv_putf hB zd298_33 rfl rfl (fun h => by cases h) rfl ?_
      refine zv_ald hB zd298_36 rfl rfl rfl ?_
      obtain ⟨r4, hr4, h⟩ := zi_bind h
      refine zv_cv hB (zv_emq (va2 := [.inr 0]) (F := [.inl 0]) (F' := [.inl 0]) (G := [g0, g1, g2]) (G' := [g0, r4, g2]) (ρ := [0, 1, 2]) (φ := []) (ψ := [0, 1]) [none] [some 0, some 1, none] zyw_M_begins zyw_M_found zye_M_found (by decide +kernel) (zt_M_begins hr4) trivial ⟨rfl, rfl, trivial⟩ rfl rfl rfl rfl rfl rfl rfl) zd298_37 zxt299 rfl (by decide) (by decide) rfl ?_
      refine zv_ald hB zd298_40 rfl rfl rfl ?_
      obtain ⟨r5, hr5, h⟩ := zi_bind h
      refine zv_cv hB (zv_emq (va2 := [.inr 0]) (F := [.inl 0]) (F' := [.inl 0]) (G := [g0, r4, g2]) (G' := [r5, r4, g2]) (ρ := [0, 1]) (φ := []) (ψ := [0]) [none] [some 0, none, none] zyw_M_walks zyw_M_found zye_M_found (by decide +kernel) (zt_M_walks hr5) trivial ⟨rfl, trivial⟩ rfl rfl rfl rfl rfl rfl rfl) zd298_41 zxt295 rfl (by decide) (by decide) rfl ?_
      refine zv_con hB zd298_44 rfl ?_
      refine zv_ist hB zd298_45 rfl rfl rfl ?_
      refine zv_con hB zd298_46 rfl ?_
      refine zv_ist hB zd298_47 rfl rfl rfl ?_
      refine zv_con hB zd298_48 rfl ?_
      refine zv_ist hB zd298_49 rfl rfl rfl ?_
      obtain ⟨q15, hq15, h⟩ := zi_bind h
      refine l0 _ _ _ _ _ _ _ q15 hq15 ?_
      show good 128 [.inr 0, .inl q15, .inr 1000, .inr 1000] [] [.inl 0] [r5, r4, g2]
      refine zv_ald hB zd298_128 rfl rfl rfl ?_
      obtain ⟨r16, hr16, h⟩ := zi_bind h
      refine zv_cv hB (zv_emq (va2 := [.inr 0]) (F := [.inl 0]) (F' := [.inl 0]) (G := [r5, r4, g2]) (G' := [r16, r4, g2]) (ρ := [0, 2, 1]) (φ := []) (ψ := [1, 0]) [none] [some 1, some 0, none] zyw_M_again zyw_M_found zye_M_found (by decide +kernel) (zt_M_again hr16) trivial ⟨rfl, rfl, trivial⟩ rfl rfl rfl rfl rfl rfl rfl) zd298_129 zxt301 rfl (by decide) (by decide) rfl ?_
      refine zv_ild hB zd298_132 rfl rfl ?_
      have hw := Option.some.inj h
      subst hw
      exact hret _ _ _ _ _ zd298_133 (by trivial) ⟨rfl, rfl, rfl⟩
    · rw [if_pos hc3] at h
      refine zv_con hB zd298_29 rfl ?_
      have hw := Option.some.inj h
      subst hw
      exact hret _ _ _ _ _ zd298_30 (by trivial) ⟨rfl, rfl, rfl⟩
/-! M_goesTo (II)I -/
-- names: 
-- fields: ; arrays: ; out: [('ret', None)]
abbrev zy_M_goesTo : zNL := (0, [], [], [], [])
theorem zyw_M_goesTo : zv_wf zy_M_goesTo = true := by decide +kernel
theorem zye_M_goesTo : zv_ek2 zy_M_goesTo = true := by decide +kernel
def zf_M_goesTo (x0 : Int) (x1 : Int) : Option (Int) := if x1 = 1 then (if (zi_div x0 24) < 0 then (some (-1)) else (if (zi_div x0 24) < 12 then (some (zi_w ((zi_w (24 * (zi_div x0 24))) + (zi_rem (zi_w ((zi_rem x0 24) + 1)) 24)))) else (some (-1)))) else (if x1 = 2 then (if (zi_div x0 24) < 0 then (some (-1)) else (if (zi_div x0 24) < 12 then (some (zi_w ((zi_w (24 * (zi_div x0 24))) + (zi_rem (zi_w ((zi_w ((zi_rem x0 24) + 24)) - 1)) 24)))) else (some (-1)))) else (if x1 = 3 then (if (zi_w ((zi_div x0 24) + 1)) < 0 then (some (-1)) else (if (zi_w ((zi_div x0 24) + 1)) < 12 then (some (zi_w ((zi_w (24 * (zi_w ((zi_div x0 24) + 1)))) + (zi_rem x0 24)))) else (some (-1)))) else (if x1 = 4 then (if (zi_w ((zi_div x0 24) - 1)) < 0 then (some (-1)) else (if (zi_w ((zi_div x0 24) - 1)) < 12 then (some (zi_w ((zi_w (24 * (zi_w ((zi_div x0 24) - 1)))) + (zi_rem x0 24)))) else (some (-1)))) else (if (zi_div x0 24) < 0 then (some (-1)) else (if (zi_div x0 24) < 12 then (some (zi_w ((zi_w (24 * (zi_div x0 24))) + (zi_rem x0 24)))) else (some (-1)))))))
theorem zd304_0 : decode zxm304.2.1 0 = .ok (.iload_n 0, 1) := by decide +kernel
theorem zd304_1 : decode zxm304.2.1 1 = .ok (.bipush 24, 2) := by decide +kernel
theorem zd304_3 : decode zxm304.2.1 3 = .ok (.irem, 1) := by decide +kernel
theorem zd304_4 : decode zxm304.2.1 4 = .ok (.istore_n 2, 1) := by decide +kernel
theorem zd304_5 : decode zxm304.2.1 5 = .ok (.iload_n 0, 1) := by decide +kernel
theorem zd304_6 : decode zxm304.2.1 6 = .ok (.bipush 24, 2) := by decide +kernel
theorem zd304_8 : decode zxm304.2.1 8 = .ok (.idiv, 1) := by decide +kernel
theorem zd304_9 : decode zxm304.2.1 9 = .ok (.istore_n 3, 1) := by decide +kernel
theorem zd304_10 : decode zxm304.2.1 10 = .ok (.iload_n 1, 1) := by decide +kernel
theorem zd304_11 : decode zxm304.2.1 11 = .ok (.iconst 1, 1) := by decide +kernel
theorem zd304_12 : decode zxm304.2.1 12 = .ok (.if_icmp .ne 10, 3) := by decide +kernel
theorem zd304_15 : decode zxm304.2.1 15 = .ok (.iload_n 2, 1) := by decide +kernel
theorem zd304_16 : decode zxm304.2.1 16 = .ok (.iconst 1, 1) := by decide +kernel
theorem zd304_17 : decode zxm304.2.1 17 = .ok (.iadd, 1) := by decide +kernel
theorem zd304_18 : decode zxm304.2.1 18 = .ok (.bipush 24, 2) := by decide +kernel
theorem zd304_20 : decode zxm304.2.1 20 = .ok (.irem, 1) := by decide +kernel
theorem zd304_21 : decode zxm304.2.1 21 = .ok (.istore_n 2, 1) := by decide +kernel
theorem zd304_22 : decode zxm304.2.1 22 = .ok (.iload_n 1, 1) := by decide +kernel
theorem zd304_23 : decode zxm304.2.1 23 = .ok (.iconst 2, 1) := by decide +kernel
theorem zd304_24 : decode zxm304.2.1 24 = .ok (.if_icmp .ne 13, 3) := by decide +kernel
theorem zd304_27 : decode zxm304.2.1 27 = .ok (.iload_n 2, 1) := by decide +kernel
theorem zd304_28 : decode zxm304.2.1 28 = .ok (.bipush 24, 2) := by decide +kernel
theorem zd304_30 : decode zxm304.2.1 30 = .ok (.iadd, 1) := by decide +kernel
theorem zd304_31 : decode zxm304.2.1 31 = .ok (.iconst 1, 1) := by decide +kernel
theorem zd304_32 : decode zxm304.2.1 32 = .ok (.isub, 1) := by decide +kernel
theorem zd304_33 : decode zxm304.2.1 33 = .ok (.bipush 24, 2) := by decide +kernel
theorem zd304_35 : decode zxm304.2.1 35 = .ok (.irem, 1) := by decide +kernel
theorem zd304_36 : decode zxm304.2.1 36 = .ok (.istore_n 2, 1) := by decide +kernel
theorem zd304_37 : decode zxm304.2.1 37 = .ok (.iload_n 1, 1) := by decide +kernel
theorem zd304_38 : decode zxm304.2.1 38 = .ok (.iconst 3, 1) := by decide +kernel
theorem zd304_39 : decode zxm304.2.1 39 = .ok (.if_icmp .ne 7, 3) := by decide +kernel
theorem zd304_42 : decode zxm304.2.1 42 = .ok (.iload_n 3, 1) := by decide +kernel
theorem zd304_43 : decode zxm304.2.1 43 = .ok (.iconst 1, 1) := by decide +kernel
theorem zd304_44 : decode zxm304.2.1 44 = .ok (.iadd, 1) := by decide +kernel
theorem zd304_45 : decode zxm304.2.1 45 = .ok (.istore_n 3, 1) := by decide +kernel
theorem zd304_46 : decode zxm304.2.1 46 = .ok (.iload_n 1, 1) := by decide +kernel
theorem zd304_47 : decode zxm304.2.1 47 = .ok (.iconst 4, 1) := by decide +kernel
theorem zd304_48 : decode zxm304.2.1 48 = .ok (.if_icmp .ne 7, 3) := by decide +kernel
theorem zd304_51 : decode zxm304.2.1 51 = .ok (.iload_n 3, 1) := by decide +kernel
theorem zd304_52 : decode zxm304.2.1 52 = .ok (.iconst 1, 1) := by decide +kernel
theorem zd304_53 : decode zxm304.2.1 53 = .ok (.isub, 1) := by decide +kernel
theorem zd304_54 : decode zxm304.2.1 54 = .ok (.istore_n 3, 1) := by decide +kernel
theorem zd304_55 : decode zxm304.2.1 55 = .ok (.iload_n 3, 1) := by decide +kernel
theorem zd304_56 : decode zxm304.2.1 56 = .ok (.ifCond .lt 9, 3) := by decide +kernel
theorem zd304_59 : decode zxm304.2.1 59 = .ok (.iload_n 3, 1) := by decide +kernel
theorem zd304_60 : decode zxm304.2.1 60 = .ok (.bipush 12, 2) := by decide +kernel
theorem zd304_62 : decode zxm304.2.1 62 = .ok (.if_icmp .lt 7, 3) := by decide +kernel
theorem zd304_65 : decode zxm304.2.1 65 = .ok (.iconst (-1), 1) := by decide +kernel
theorem zd304_66 : decode zxm304.2.1 66 = .ok (.goto 9, 3) := by decide +kernel
theorem zd304_69 : decode zxm304.2.1 69 = .ok (.bipush 24, 2) := by decide +kernel
theorem zd304_71 : decode zxm304.2.1 71 = .ok (.iload_n 3, 1) := by decide +kernel
theorem zd304_72 : decode zxm304.2.1 72 = .ok (.imul, 1) := by decide +kernel
theorem zd304_73 : decode zxm304.2.1 73 = .ok (.iload_n 2, 1) := by decide +kernel
theorem zd304_74 : decode zxm304.2.1 74 = .ok (.iadd, 1) := by decide +kernel
theorem zd304_75 : decode zxm304.2.1 75 = .ok (.ireturn, 1) := by decide +kernel
theorem zt_M_goesTo {x0 : Int} {x1 : Int} {o : Int} (h : zf_M_goesTo x0 x1 = some o) : zv_Fn z_TB z_cl z_KX zy_M_goesTo zxm304 (0, 0) [.inl x0, .inl x1] [] [] (some o) [] [] := zv_meth (K := (z_KF13, z_KC13, z_KL13, z_KT13, [], [], [], none)) (FT := z_FT) (MT := z_MT) (n := 2) zxp304 (z_ks13 _ (fun _ h => List.mem_cons_of_mem _ h) _ _ _ _ (fun j r h _ => by cases h)) (fun _ _ => zs_KX_p) zyw_M_goesTo (fun va F G h => by obtain ⟨rfl, _⟩ := h; rfl) (fun va F G h => by obtain ⟨rfl, _⟩ := h; rfl) rfl fun good va F G hB hret hvret hP => by
  obtain ⟨rfl, rfl, rfl⟩ := hP
  unfold zf_M_goesTo at h
  refine zv_ild hB zd304_0 rfl rfl ?_
  refine zv_con hB zd304_1 rfl ?_
  refine zv_remw hB zd304_3 (by decide) ?_
  refine zv_ist hB zd304_4 rfl rfl rfl ?_
  refine zv_ild hB zd304_5 rfl rfl ?_
  refine zv_con hB zd304_6 rfl ?_
  refine zv_divw hB zd304_8 (by decide) ?_
  refine zv_ist hB zd304_9 rfl rfl rfl ?_
  refine zv_ild hB zd304_10 rfl rfl ?_
  refine zv_con hB zd304_11 rfl ?_
  refine zv_cne hB zd304_12 rfl (fun hc1 => ?_) (fun hc1 => ?_)
  · rw [if_neg hc1] at h
    refine zv_ild hB zd304_22 rfl rfl ?_
    refine zv_con hB zd304_23 rfl ?_
    refine zv_cne hB zd304_24 rfl (fun hc2 => ?_) (fun hc2 => ?_)
    · rw [if_neg hc2] at h
      refine zv_ild hB zd304_37 rfl rfl ?_
      refine zv_con hB zd304_38 rfl ?_
      refine zv_cne hB zd304_39 rfl (fun hc3 => ?_) (fun hc3 => ?_)
      · rw [if_neg hc3] at h
        refine zv_ild hB zd304_46 rfl rfl ?_
        refine zv_con hB zd304_47 rfl ?_
        refine zv_cne hB zd304_48 rfl (fun hc4 => ?_) (fun hc4 => ?_)
        · rw [if_neg hc4] at h
          refine zv_ild hB zd304_55 rfl rfl ?_
          refine zv_zlt hB zd304_56 rfl (fun hc5 => ?_) (fun hc5 => ?_)
          · rw [if_pos hc5] at h
            refine zv_con hB zd304_65 rfl ?_
            refine zv_goto hB zd304_66 rfl ?_
            have hw := Option.some.inj h
            subst hw
            exact hret _ _ _ _ _ zd304_75 (by trivial) ⟨rfl, rfl, rfl⟩
          · rw [if_neg (Int.not_lt.mpr hc5)] at h
            refine zv_ild hB zd304_59 rfl rfl ?_
            refine zv_con hB zd304_60 rfl ?_
            refine zv_clt hB zd304_62 rfl (fun hc6 => ?_) (fun hc6 => ?_)
            · rw [if_pos hc6] at h
              refine zv_con hB zd304_69 rfl ?_
              refine zv_ild hB zd304_71 rfl rfl ?_
              refine zv_mulw hB zd304_72 ?_
              refine zv_ild hB zd304_73 rfl rfl ?_
              refine zv_addw hB zd304_74 ?_
              have hw := Option.some.inj h
              subst hw
              exact hret _ _ _ _ _ zd304_75 (by trivial) ⟨rfl, rfl, rfl⟩
            · rw [if_neg (Int.not_lt.mpr hc6)] at h
              refine zv_con hB zd304_65 rfl ?_
              refine zv_goto hB zd304_66 rfl ?_
              have hw := Option.some.inj h
              subst hw
              exact hret _ _ _ _ _ zd304_75 (by trivial) ⟨rfl, rfl, rfl⟩
        · rw [if_pos hc4] at h
          refine zv_ild hB zd304_51 rfl rfl ?_
          refine zv_con hB zd304_52 rfl ?_
          refine zv_subw hB zd304_53 ?_
          refine zv_ist hB zd304_54 rfl rfl rfl ?_
          refine zv_ild hB zd304_55 rfl rfl ?_
          refine zv_zlt hB zd304_56 rfl (fun hc7 => ?_) (fun hc7 => ?_)
          · rw [if_pos hc7] at h
            refine zv_con hB zd304_65 rfl ?_
            refine zv_goto hB zd304_66 rfl ?_
            have hw := Option.some.inj h
            subst hw
            exact hret _ _ _ _ _ zd304_75 (by trivial) ⟨rfl, rfl, rfl⟩
          · rw [if_neg (Int.not_lt.mpr hc7)] at h
            refine zv_ild hB zd304_59 rfl rfl ?_
            refine zv_con hB zd304_60 rfl ?_
            refine zv_clt hB zd304_62 rfl (fun hc8 => ?_) (fun hc8 => ?_)
            · rw [if_pos hc8] at h
              refine zv_con hB zd304_69 rfl ?_
              refine zv_ild hB zd304_71 rfl rfl ?_
              refine zv_mulw hB zd304_72 ?_
              refine zv_ild hB zd304_73 rfl rfl ?_
              refine zv_addw hB zd304_74 ?_
              have hw := Option.some.inj h
              subst hw
              exact hret _ _ _ _ _ zd304_75 (by trivial) ⟨rfl, rfl, rfl⟩
            · rw [if_neg (Int.not_lt.mpr hc8)] at h
              refine zv_con hB zd304_65 rfl ?_
              refine zv_goto hB zd304_66 rfl ?_
              have hw := Option.some.inj h
              subst hw
              exact hret _ _ _ _ _ zd304_75 (by trivial) ⟨rfl, rfl, rfl⟩
      · rw [if_pos hc3] at h
        refine zv_ild hB zd304_42 rfl rfl ?_
        refine zv_con hB zd304_43 rfl ?_
        refine zv_addw hB zd304_44 ?_
        refine zv_ist hB zd304_45 rfl rfl rfl ?_
        refine zv_ild hB zd304_46 rfl rfl ?_
        refine zv_con hB zd304_47 rfl ?_
        refine zv_cne hB zd304_48 rfl (fun _ => ?_) (fun hc => absurd hc (by omega))
        refine zv_ild hB zd304_55 rfl rfl ?_
        refine zv_zlt hB zd304_56 rfl (fun hc10 => ?_) (fun hc10 => ?_)
        · rw [if_pos hc10] at h
          refine zv_con hB zd304_65 rfl ?_
          refine zv_goto hB zd304_66 rfl ?_
          have hw := Option.some.inj h
          subst hw
          exact hret _ _ _ _ _ zd304_75 (by trivial) ⟨rfl, rfl, rfl⟩
        · rw [if_neg (Int.not_lt.mpr hc10)] at h
          refine zv_ild hB zd304_59 rfl rfl ?_
          refine zv_con hB zd304_60 rfl ?_
          refine zv_clt hB zd304_62 rfl (fun hc11 => ?_) (fun hc11 => ?_)
          · rw [if_pos hc11] at h
            refine zv_con hB zd304_69 rfl ?_
            refine zv_ild hB zd304_71 rfl rfl ?_
            refine zv_mulw hB zd304_72 ?_
            refine zv_ild hB zd304_73 rfl rfl ?_
            refine zv_addw hB zd304_74 ?_
            have hw := Option.some.inj h
            subst hw
            exact hret _ _ _ _ _ zd304_75 (by trivial) ⟨rfl, rfl, rfl⟩
          · rw [if_neg (Int.not_lt.mpr hc11)] at h
            refine zv_con hB zd304_65 rfl ?_
            refine zv_goto hB zd304_66 rfl ?_
            have hw := Option.some.inj h
            subst hw
            exact hret _ _ _ _ _ zd304_75 (by trivial) ⟨rfl, rfl, rfl⟩
    · rw [if_pos hc2] at h
      refine zv_ild hB zd304_27 rfl rfl ?_
      refine zv_con hB zd304_28 rfl ?_
      refine zv_addw hB zd304_30 ?_
      refine zv_con hB zd304_31 rfl ?_
      refine zv_subw hB zd304_32 ?_
      refine zv_con hB zd304_33 rfl ?_
      refine zv_remw hB zd304_35 (by decide) ?_
      refine zv_ist hB zd304_36 rfl rfl rfl ?_
      refine zv_ild hB zd304_37 rfl rfl ?_
      refine zv_con hB zd304_38 rfl ?_
      refine zv_cne hB zd304_39 rfl (fun _ => ?_) (fun hc => absurd hc (by omega))
      refine zv_ild hB zd304_46 rfl rfl ?_
      refine zv_con hB zd304_47 rfl ?_
      refine zv_cne hB zd304_48 rfl (fun _ => ?_) (fun hc => absurd hc (by omega))
      refine zv_ild hB zd304_55 rfl rfl ?_
      refine zv_zlt hB zd304_56 rfl (fun hc14 => ?_) (fun hc14 => ?_)
      · rw [if_pos hc14] at h
        refine zv_con hB zd304_65 rfl ?_
        refine zv_goto hB zd304_66 rfl ?_
        have hw := Option.some.inj h
        subst hw
        exact hret _ _ _ _ _ zd304_75 (by trivial) ⟨rfl, rfl, rfl⟩
      · rw [if_neg (Int.not_lt.mpr hc14)] at h
        refine zv_ild hB zd304_59 rfl rfl ?_
        refine zv_con hB zd304_60 rfl ?_
        refine zv_clt hB zd304_62 rfl (fun hc15 => ?_) (fun hc15 => ?_)
        · rw [if_pos hc15] at h
          refine zv_con hB zd304_69 rfl ?_
          refine zv_ild hB zd304_71 rfl rfl ?_
          refine zv_mulw hB zd304_72 ?_
          refine zv_ild hB zd304_73 rfl rfl ?_
          refine zv_addw hB zd304_74 ?_
          have hw := Option.some.inj h
          subst hw
          exact hret _ _ _ _ _ zd304_75 (by trivial) ⟨rfl, rfl, rfl⟩
        · rw [if_neg (Int.not_lt.mpr hc15)] at h
          refine zv_con hB zd304_65 rfl ?_
          refine zv_goto hB zd304_66 rfl ?_
          have hw := Option.some.inj h
          subst hw
          exact hret _ _ _ _ _ zd304_75 (by trivial) ⟨rfl, rfl, rfl⟩
  · rw [if_pos hc1] at h
    refine zv_ild hB zd304_15 rfl rfl ?_
    refine zv_con hB zd304_16 rfl ?_
    refine zv_addw hB zd304_17 ?_
    refine zv_con hB zd304_18 rfl ?_
    refine zv_remw hB zd304_20 (by decide) ?_
    refine zv_ist hB zd304_21 rfl rfl rfl ?_
    refine zv_ild hB zd304_22 rfl rfl ?_
    refine zv_con hB zd304_23 rfl ?_
    refine zv_cne hB zd304_24 rfl (fun _ => ?_) (fun hc => absurd hc (by omega))
    refine zv_ild hB zd304_37 rfl rfl ?_
    refine zv_con hB zd304_38 rfl ?_
    refine zv_cne hB zd304_39 rfl (fun _ => ?_) (fun hc => absurd hc (by omega))
    refine zv_ild hB zd304_46 rfl rfl ?_
    refine zv_con hB zd304_47 rfl ?_
    refine zv_cne hB zd304_48 rfl (fun _ => ?_) (fun hc => absurd hc (by omega))
    refine zv_ild hB zd304_55 rfl rfl ?_
    refine zv_zlt hB zd304_56 rfl (fun hc19 => ?_) (fun hc19 => ?_)
    · rw [if_pos hc19] at h
      refine zv_con hB zd304_65 rfl ?_
      refine zv_goto hB zd304_66 rfl ?_
      have hw := Option.some.inj h
      subst hw
      exact hret _ _ _ _ _ zd304_75 (by trivial) ⟨rfl, rfl, rfl⟩
    · rw [if_neg (Int.not_lt.mpr hc19)] at h
      refine zv_ild hB zd304_59 rfl rfl ?_
      refine zv_con hB zd304_60 rfl ?_
      refine zv_clt hB zd304_62 rfl (fun hc20 => ?_) (fun hc20 => ?_)
      · rw [if_pos hc20] at h
        refine zv_con hB zd304_69 rfl ?_
        refine zv_ild hB zd304_71 rfl rfl ?_
        refine zv_mulw hB zd304_72 ?_
        refine zv_ild hB zd304_73 rfl rfl ?_
        refine zv_addw hB zd304_74 ?_
        have hw := Option.some.inj h
        subst hw
        exact hret _ _ _ _ _ zd304_75 (by trivial) ⟨rfl, rfl, rfl⟩
      · rw [if_neg (Int.not_lt.mpr hc20)] at h
        refine zv_con hB zd304_65 rfl ?_
        refine zv_goto hB zd304_66 rfl ?_
        have hw := Option.some.inj h
        subst hw
        exact hret _ _ _ _ _ zd304_75 (by trivial) ⟨rfl, rfl, rfl⟩
