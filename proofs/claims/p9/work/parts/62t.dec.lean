/-! Methods as functions, and that they do what these do. -/
/-! M_over (II)I -/
-- names: 0 StarTalesModel('arg', 0), 1 (0, 422)(0, 12, 0)
-- fields: ; arrays: g0 = 1; out: [('ret', None)]
abbrev zy_M_over : zNL := (2, [(0, 12)], [], [(0, 12, 0, 1)], [(1, 0, 422, 0)])
theorem zyw_M_over : zv_wf zy_M_over = true := by decide +kernel
theorem zye_M_over : zv_ek2 zy_M_over = true := by decide +kernel
def zf_M_over_l0_b (x1 : Int) (x2 : Int) (g0 : (Int → Int)) (rec : Int → Int → Option (Int)) (x3 : Int) (x4 : Int) : Option (Int) := if x4 < 24 then ((zf_M_isTold x4 g0).bind fun r4 => (if r4 = 0 then (rec x3 (zi_w (x4 + 1))) else (cond (zi_ix (zi_w (24 + x4)) 422) (if (g0 (zi_w (24 + x4))) = x2 then (cond (zi_ix (zi_w (0 + x4)) 422) (rec (zi_or x3 (zi_shl 1 (zi_rem (zi_w ((zi_w (x1 - (g0 (zi_w (0 + x4))))) + 24)) 24))) (zi_w (x4 + 1))) none) else (rec x3 (zi_w (x4 + 1)))) none))) else (some x3)
def zf_M_over_l0 (x1 : Int) (x2 : Int) (g0 : (Int → Int)) : Nat → Int → Int → Option (Int)
  | 0, _, _ => none
  | n + 1, x3, x4 => zf_M_over_l0_b x1 x2 g0 (zf_M_over_l0 x1 x2 g0 n) x3 x4
def zf_M_over (x1 : Int) (x2 : Int) (g0 : (Int → Int)) : Option (Int) := (zf_M_isPlace x1 x2).bind fun r1 => (if r1 = 0 then (some (-1)) else ((zf_M_over_l0 x1 x2 g0 zi_fu 0 0).bind fun q9 => (some q9)))
theorem zd316_0 : decode zxm316.2.1 0 = .ok (.iload_n 1, 1) := by decide +kernel
theorem zd316_1 : decode zxm316.2.1 1 = .ok (.iload_n 2, 1) := by decide +kernel
theorem zd316_2 : decode zxm316.2.1 2 = .ok (.invokestatic 154, 3) := by decide +kernel
theorem zd316_5 : decode zxm316.2.1 5 = .ok (.ifCond .ne 5, 3) := by decide +kernel
theorem zd316_8 : decode zxm316.2.1 8 = .ok (.iconst (-1), 1) := by decide +kernel
theorem zd316_9 : decode zxm316.2.1 9 = .ok (.ireturn, 1) := by decide +kernel
theorem zd316_10 : decode zxm316.2.1 10 = .ok (.iconst 0, 1) := by decide +kernel
theorem zd316_11 : decode zxm316.2.1 11 = .ok (.istore_n 3, 1) := by decide +kernel
theorem zd316_12 : decode zxm316.2.1 12 = .ok (.iconst 0, 1) := by decide +kernel
theorem zd316_13 : decode zxm316.2.1 13 = .ok (.istore 4, 2) := by decide +kernel
theorem zd316_15 : decode zxm316.2.1 15 = .ok (.iload 4, 2) := by decide +kernel
theorem zd316_17 : decode zxm316.2.1 17 = .ok (.bipush 24, 2) := by decide +kernel
theorem zd316_19 : decode zxm316.2.1 19 = .ok (.if_icmp .ge 54, 3) := by decide +kernel
theorem zd316_22 : decode zxm316.2.1 22 = .ok (.aload_n 0, 1) := by decide +kernel
theorem zd316_23 : decode zxm316.2.1 23 = .ok (.iload 4, 2) := by decide +kernel
theorem zd316_25 : decode zxm316.2.1 25 = .ok (.invokevirtual 157, 3) := by decide +kernel
theorem zd316_28 : decode zxm316.2.1 28 = .ok (.ifCond .eq 39, 3) := by decide +kernel
theorem zd316_31 : decode zxm316.2.1 31 = .ok (.aload_n 0, 1) := by decide +kernel
theorem zd316_32 : decode zxm316.2.1 32 = .ok (.getfield 7, 3) := by decide +kernel
theorem zd316_35 : decode zxm316.2.1 35 = .ok (.bipush 24, 2) := by decide +kernel
theorem zd316_37 : decode zxm316.2.1 37 = .ok (.iload 4, 2) := by decide +kernel
theorem zd316_39 : decode zxm316.2.1 39 = .ok (.iadd, 1) := by decide +kernel
theorem zd316_40 : decode zxm316.2.1 40 = .ok (.iaload, 1) := by decide +kernel
theorem zd316_41 : decode zxm316.2.1 41 = .ok (.iload_n 2, 1) := by decide +kernel
theorem zd316_42 : decode zxm316.2.1 42 = .ok (.if_icmp .ne 25, 3) := by decide +kernel
theorem zd316_45 : decode zxm316.2.1 45 = .ok (.iload_n 3, 1) := by decide +kernel
theorem zd316_46 : decode zxm316.2.1 46 = .ok (.iconst 1, 1) := by decide +kernel
theorem zd316_47 : decode zxm316.2.1 47 = .ok (.iload_n 1, 1) := by decide +kernel
theorem zd316_48 : decode zxm316.2.1 48 = .ok (.aload_n 0, 1) := by decide +kernel
theorem zd316_49 : decode zxm316.2.1 49 = .ok (.getfield 7, 3) := by decide +kernel
theorem zd316_52 : decode zxm316.2.1 52 = .ok (.iconst 0, 1) := by decide +kernel
theorem zd316_53 : decode zxm316.2.1 53 = .ok (.iload 4, 2) := by decide +kernel
theorem zd316_55 : decode zxm316.2.1 55 = .ok (.iadd, 1) := by decide +kernel
theorem zd316_56 : decode zxm316.2.1 56 = .ok (.iaload, 1) := by decide +kernel
theorem zd316_57 : decode zxm316.2.1 57 = .ok (.isub, 1) := by decide +kernel
theorem zd316_58 : decode zxm316.2.1 58 = .ok (.bipush 24, 2) := by decide +kernel
theorem zd316_60 : decode zxm316.2.1 60 = .ok (.iadd, 1) := by decide +kernel
theorem zd316_61 : decode zxm316.2.1 61 = .ok (.bipush 24, 2) := by decide +kernel
theorem zd316_63 : decode zxm316.2.1 63 = .ok (.irem, 1) := by decide +kernel
theorem zd316_64 : decode zxm316.2.1 64 = .ok (.ishl, 1) := by decide +kernel
theorem zd316_65 : decode zxm316.2.1 65 = .ok (.ior, 1) := by decide +kernel
theorem zd316_66 : decode zxm316.2.1 66 = .ok (.istore_n 3, 1) := by decide +kernel
theorem zd316_67 : decode zxm316.2.1 67 = .ok (.iinc 4 1, 3) := by decide +kernel
theorem zd316_70 : decode zxm316.2.1 70 = .ok (.goto (-55), 3) := by decide +kernel
theorem zd316_73 : decode zxm316.2.1 73 = .ok (.iload_n 3, 1) := by decide +kernel
theorem zd316_74 : decode zxm316.2.1 74 = .ok (.ireturn, 1) := by decide +kernel
theorem zt_M_over {x1 : Int} {x2 : Int} {g0 : (Int → Int)} {o : Int} (h : zf_M_over x1 x2 g0 = some o) : zv_Fn z_TB z_cl z_KX zy_M_over zxm316 (2, 120) [.inr 0, .inl x1, .inl x2] [] [g0] (some o) [] [g0] := zv_meth (K := (z_KF13, z_KC13, z_KL13, z_KT13, [], [], [], none)) (FT := z_FT) (MT := z_MT) (n := 3) zxp316 (z_ks13 _ (fun _ h => List.mem_cons_of_mem _ h) _ _ _ _ (fun j r h _ => by cases h)) (fun _ _ => zs_KX_p) zyw_M_over (fun va F G h => by obtain ⟨rfl, _⟩ := h; rfl) (fun va F G h => by obtain ⟨rfl, _⟩ := h; rfl) rfl fun good va F G hB hret hvret hP => by
  obtain ⟨rfl, rfl, rfl⟩ := hP
  have l0 : ∀ (n : Nat) (x1 : Int) (x2 : Int) (x3 : Int) (x4 : Int) (q : Int), zf_M_over_l0 x1 x2 g0 n x3 x4 = some q → (good 73 [.inr 1000, .inr 1000, .inr 1000, .inl q, .inr 1000] [] [] [g0]) → good 15 [.inr 0, .inl x1, .inl x2, .inl x3, .inl x4] [] [] [g0] := by
    intro n
    induction n with
    | zero => intro x1 x2 x3 x4 q h; exact absurd (show none = some q from h) (fun h => by cases h)
    | succ n ih =>
      intro x1 x2 x3 x4 q h hK
      replace h : zf_M_over_l0_b x1 x2 g0 (zf_M_over_l0 x1 x2 g0 n) x3 x4 = some q := h
      unfold zf_M_over_l0_b at h
      refine zv_ild hB zd316_15 rfl rfl ?_
      refine zv_con hB zd316_17 rfl ?_
      refine zv_cge hB zd316_19 rfl (fun hc3 => ?_) (fun hc3 => ?_)
      · rw [if_neg (Int.not_lt.mpr hc3)] at h
        have hq := Option.some.inj h
        subst hq
        refine zv_wk hB (L' := [.inr 1000, .inr 1000, .inr 1000, .inl x3, .inr 1000]) (F' := []) ⟨fun (h : zv_is (.inr 1000)) => (Nat.lt_irrefl 1000 h).elim, fun (h : zv_is (.inr 1000)) => (Nat.lt_irrefl 1000 h).elim, fun (h : zv_is (.inr 1000)) => (Nat.lt_irrefl 1000 h).elim, fun _ => rfl, fun (h : zv_is (.inr 1000)) => (Nat.lt_irrefl 1000 h).elim, trivial⟩ trivial ?_
        exact hK
      · rw [if_pos hc3] at h
        refine zv_ald hB zd316_22 rfl rfl rfl ?_
        refine zv_ild hB zd316_23 rfl rfl ?_
        obtain ⟨r4, hr4, h⟩ := zi_bind h
        refine zv_cv hB (zv_emq (va2 := [.inr 0, .inl x4]) (F := []) (F' := []) (G := [g0]) (G' := [g0]) (ρ := [0, 1]) (φ := []) (ψ := [0]) [] [some 0] zyw_M_isTold zyw_M_over zye_M_over (by decide +kernel) (zt_M_isTold hr4) trivial ⟨rfl, trivial⟩ rfl rfl rfl rfl rfl rfl rfl) zd316_25 zxt203 rfl (by decide) (by decide) rfl ?_
        refine zv_zeq hB zd316_28 rfl (fun hc5 => ?_) (fun hc5 => ?_)
        · rw [if_pos hc5] at h
          refine zv_iincw hB zd316_67 rfl rfl ?_
          refine zv_goto hB zd316_70 rfl ?_
          exact ih _ _ _ _ q h hK
        · rw [if_neg hc5] at h
          refine zv_ald hB zd316_31 rfl rfl rfl ?_
          refine zv_getr hB zd316_32 rfl ?_
          refine zv_con hB zd316_35 rfl ?_
          refine zv_ild hB zd316_37 rfl rfl ?_
          refine zv_addw hB zd316_39 ?_
          obtain ⟨c6, h⟩ := zi_if h
          refine zv_iald hB zd316_40 rfl rfl (zi_ix_ok c6).1 (zi_ix_ok c6).2 (fun _ _ => ?_)
          refine zv_ild hB zd316_41 rfl rfl ?_
          refine zv_cne hB zd316_42 rfl (fun hc7 => ?_) (fun hc7 => ?_)
          · rw [if_neg hc7] at h
            refine zv_iincw hB zd316_67 rfl rfl ?_
            refine zv_goto hB zd316_70 rfl ?_
            exact ih _ _ _ _ q h hK
          · rw [if_pos hc7] at h
            refine zv_ild hB zd316_45 rfl rfl ?_
            refine zv_con hB zd316_46 rfl ?_
            refine zv_ild hB zd316_47 rfl rfl ?_
            refine zv_ald hB zd316_48 rfl rfl rfl ?_
            refine zv_getr hB zd316_49 rfl ?_
            refine zv_con hB zd316_52 rfl ?_
            refine zv_ild hB zd316_53 rfl rfl ?_
            refine zv_addw hB zd316_55 ?_
            obtain ⟨c8, h⟩ := zi_if h
            refine zv_iald hB zd316_56 rfl rfl (zi_ix_ok c8).1 (zi_ix_ok c8).2 (fun _ _ => ?_)
            refine zv_subw hB zd316_57 ?_
            refine zv_con hB zd316_58 rfl ?_
            refine zv_addw hB zd316_60 ?_
            refine zv_con hB zd316_61 rfl ?_
            refine zv_remw hB zd316_63 (by decide) ?_
            refine zv_shlw hB zd316_64 ?_
            refine zv_orw hB zd316_65 ?_
            refine zv_ist hB zd316_66 rfl rfl rfl ?_
            refine zv_iincw hB zd316_67 rfl rfl ?_
            refine zv_goto hB zd316_70 rfl ?_
            exact ih _ _ _ _ q h hK
  unfold zf_M_over at h
  refine zv_ild hB zd316_0 rfl rfl ?_
  refine zv_ild hB zd316_1 rfl rfl ?_
  obtain ⟨r1, hr1, h⟩ := zi_bind h
  refine zv_cs hB (zv_emq (va2 := [.inl x1, .inl x2]) (F := []) (F' := []) (G := [g0]) (G' := [g0]) (ρ := []) (φ := []) (ψ := []) [] [none] zyw_M_isPlace zyw_M_over zye_M_over (by decide +kernel) (zt_M_isPlace hr1) trivial trivial rfl rfl rfl rfl rfl rfl rfl) zd316_2 zxt201 rfl (by decide) (by decide) rfl ?_
  refine zv_zne hB zd316_5 rfl (fun hc2 => ?_) (fun hc2 => ?_)
  · rw [if_neg hc2] at h
    refine zv_con hB zd316_10 rfl ?_
    refine zv_ist hB zd316_11 rfl rfl rfl ?_
    refine zv_con hB zd316_12 rfl ?_
    refine zv_ist hB zd316_13 rfl rfl rfl ?_
    obtain ⟨q9, hq9, h⟩ := zi_bind h
    refine l0 _ _ _ _ _ q9 hq9 ?_
    show good 73 [.inr 1000, .inr 1000, .inr 1000, .inl q9, .inr 1000] [] [] [g0]
    refine zv_ild hB zd316_73 rfl rfl ?_
    have hw := Option.some.inj h
    subst hw
    exact hret _ _ _ _ _ zd316_74 (by trivial) ⟨rfl, rfl, rfl⟩
  · rw [if_pos hc2] at h
    refine zv_con hB zd316_8 rfl ?_
    have hw := Option.some.inj h
    subst hw
    exact hret _ _ _ _ _ zd316_9 (by trivial) ⟨rfl, rfl, rfl⟩
/-! M_home (II)I -/
-- names: 0 StarTalesModel('arg', 0), 1 (0, 422)(0, 12, 0), 2 (0, 14)(0, 12, 21), 3 (0, 13)(0, 12, 26), 4 (0, 14)(0, 12, 23), 5 (0, 14)(0, 12, 24), 6 (0, 220)(0, 12, 20), 7 (0, 220)(0, 12, 25), 8 (0, 24)(0, 12, 28), 9 (0, 24)(0, 12, 59), 10 (0, 422)(0, 12, 1)
-- fields: f0 = 0.clauses_, f1 = 0.seen0_; arrays: g0 = 1, g1 = 2, g2 = 3, g3 = 4, g4 = 5, g5 = 6, g6 = 7, g7 = 8, g8 = 9, g9 = 10; out: [('ret', None), ('f', 1), ('g', 0), ('g', 2), ('g', 6), ('g', 7), ('g', 8), ('g', 9)]
abbrev zy_M_home : zNL := (11, [(0, 12)], [(0, 12, 13, 0), (0, 12, 27, 1)], [(0, 12, 0, 1), (0, 12, 21, 2), (0, 12, 26, 3), (0, 12, 23, 4), (0, 12, 24, 5), (0, 12, 20, 6), (0, 12, 25, 7), (0, 12, 28, 8), (0, 12, 59, 9), (0, 12, 1, 10)], [(1, 0, 422, 0), (2, 0, 14, 1), (3, 0, 13, 2), (4, 0, 14, 3), (5, 0, 14, 4), (6, 0, 220, 5), (7, 0, 220, 6), (8, 0, 24, 7), (9, 0, 24, 8), (10, 0, 422, 9)])
theorem zyw_M_home : zv_wf zy_M_home = true := by decide +kernel
theorem zye_M_home : zv_ek2 zy_M_home = true := by decide +kernel
def zf_M_home_l0_b (g7 : (Int → Int)) (rec : Int → (Int → Int) → Option ((Int → Int))) (x5 : Int) (g8 : (Int → Int)) : Option ((Int → Int)) := if x5 < 24 then (cond (zi_ix x5 24) (rec (zi_w (x5 + 1)) (zv_up g8 x5 (g7 x5))) none) else (some g8)
def zf_M_home_l0 (g7 : (Int → Int)) : Nat → Int → (Int → Int) → Option ((Int → Int))
  | 0, _, _ => none
  | n + 1, x5, g8 => zf_M_home_l0_b g7 (zf_M_home_l0 g7 n) x5 g8
def zf_M_home_l2_b (g7 : (Int → Int)) (g8 : (Int → Int)) (rec : Int → Int → Option (Int)) (x7 : Int) (x8 : Int) : Option (Int) := if x8 < 24 then (if x7 = 0 then (rec 0 (zi_w (x8 + 1))) else (cond (zi_ix x8 24) (if (g7 x8) = (g8 x8) then (rec 1 (zi_w (x8 + 1))) else (rec 0 (zi_w (x8 + 1)))) none)) else (some x7)
def zf_M_home_l2 (g7 : (Int → Int)) (g8 : (Int → Int)) : Nat → Int → Int → Option (Int)
  | 0, _, _ => none
  | n + 1, x7, x8 => zf_M_home_l2_b g7 g8 (zf_M_home_l2 g7 g8 n) x7 x8
def zf_M_home_l1_b (x3 : Int) (x4 : Int) (f0 : Int) (g1 : (Int → Int)) (g3 : (Int → Int)) (g4 : (Int → Int)) (g5 : (Int → Int)) (g8 : (Int → Int)) (rec : Int → Int → Int → (Int → Int) → (Int → Int) → (Int → Int) → (Int → Int) → Option (Int × Int × (Int → Int) × (Int → Int) × (Int → Int) × (Int → Int))) (x5 : Int) (x6 : Int) (f1 : Int) (g0 : (Int → Int)) (g2 : (Int → Int)) (g6 : (Int → Int)) (g7 : (Int → Int)) : Option (Int × Int × (Int → Int) × (Int → Int) × (Int → Int) × (Int → Int)) := if 60 < x6 then (some (x5, f1, g0, g2, g6, g7)) else (if x5 = (-2) then ((zf_M_walks (zv_up g0 129 (zi_w ((g0 129) + 1)))).bind fun r10 => ((zf_M_looks x3 f0 f1 r10 g1 g2 g3 g4 g5 g6 g7).bind fun r11 => (if r11.1 = x4 then ((zf_M_home_l2 r11.2.2.2 g8 zi_fu 1 0).bind fun q19 => (if q19 = 0 then (rec x5 (zi_w (x6 + 1)) r11.1 r10 r11.2.1 r11.2.2.1 r11.2.2.2) else (rec x6 (zi_w (x6 + 1)) r11.1 r10 r11.2.1 r11.2.2.1 r11.2.2.2))) else ((zf_M_home_l2 r11.2.2.2 g8 zi_fu 0 0).bind fun q17 => (if q17 = 0 then (rec x5 (zi_w (x6 + 1)) r11.1 r10 r11.2.1 r11.2.2.1 r11.2.2.2) else (rec x6 (zi_w (x6 + 1)) r11.1 r10 r11.2.1 r11.2.2.1 r11.2.2.2)))))) else (some (x5, f1, g0, g2, g6, g7)))
def zf_M_home_l1 (x3 : Int) (x4 : Int) (f0 : Int) (g1 : (Int → Int)) (g3 : (Int → Int)) (g4 : (Int → Int)) (g5 : (Int → Int)) (g8 : (Int → Int)) : Nat → Int → Int → Int → (Int → Int) → (Int → Int) → (Int → Int) → (Int → Int) → Option (Int × Int × (Int → Int) × (Int → Int) × (Int → Int) × (Int → Int))
  | 0, _, _, _, _, _, _, _ => none
  | n + 1, x5, x6, f1, g0, g2, g6, g7 => zf_M_home_l1_b x3 x4 f0 g1 g3 g4 g5 g8 (zf_M_home_l1 x3 x4 f0 g1 g3 g4 g5 g8 n) x5 x6 f1 g0 g2 g6 g7
def zf_M_home (x1 : Int) (x2 : Int) (f0 : Int) (f1 : Int) (g0 : (Int → Int)) (g1 : (Int → Int)) (g2 : (Int → Int)) (g3 : (Int → Int)) (g4 : (Int → Int)) (g5 : (Int → Int)) (g6 : (Int → Int)) (g7 : (Int → Int)) (g8 : (Int → Int)) (g9 : (Int → Int)) : Option (Int × Int × (Int → Int) × (Int → Int) × (Int → Int) × (Int → Int) × (Int → Int) × (Int → Int)) := (zf_M_isPlace x1 x2).bind fun r1 => (if r1 = 0 then (some ((-1), f1, g0, g2, g6, g7, g8, g9)) else ((zf_M_looks (zi_w ((zi_w (24 * x2)) + x1)) f0 f1 g0 g1 g2 g3 g4 g5 g6 g7).bind fun r3 => ((zf_M_home_l0 r3.2.2.2 zi_fu 0 g8).bind fun q6 => ((zf_M_begins g0 g9).bind fun r7 => ((zf_M_home_l1 (zi_w ((zi_w (24 * x2)) + x1)) r3.1 f0 g1 g3 g4 g5 q6 zi_fu (-2) 1 r3.1 g0 r3.2.1 r3.2.2.1 r3.2.2.2).bind fun q21 => ((zf_M_again r7 q21.2.2.1).bind fun r22 => (some (q21.1, q21.2.1, r22, q21.2.2.2.1, q21.2.2.2.2.1, q21.2.2.2.2.2, q6, r7))))))))
theorem zd317_0 : decode zxm317.2.1 0 = .ok (.iload_n 1, 1) := by decide +kernel
theorem zd317_1 : decode zxm317.2.1 1 = .ok (.iload_n 2, 1) := by decide +kernel
theorem zd317_2 : decode zxm317.2.1 2 = .ok (.invokestatic 154, 3) := by decide +kernel
theorem zd317_5 : decode zxm317.2.1 5 = .ok (.ifCond .ne 5, 3) := by decide +kernel
theorem zd317_8 : decode zxm317.2.1 8 = .ok (.iconst (-1), 1) := by decide +kernel
theorem zd317_9 : decode zxm317.2.1 9 = .ok (.ireturn, 1) := by decide +kernel
theorem zd317_10 : decode zxm317.2.1 10 = .ok (.bipush 24, 2) := by decide +kernel
theorem zd317_12 : decode zxm317.2.1 12 = .ok (.iload_n 2, 1) := by decide +kernel
theorem zd317_13 : decode zxm317.2.1 13 = .ok (.imul, 1) := by decide +kernel
theorem zd317_14 : decode zxm317.2.1 14 = .ok (.iload_n 1, 1) := by decide +kernel
theorem zd317_15 : decode zxm317.2.1 15 = .ok (.iadd, 1) := by decide +kernel
theorem zd317_16 : decode zxm317.2.1 16 = .ok (.istore_n 3, 1) := by decide +kernel
theorem zd317_17 : decode zxm317.2.1 17 = .ok (.aload_n 0, 1) := by decide +kernel
theorem zd317_18 : decode zxm317.2.1 18 = .ok (.iload_n 3, 1) := by decide +kernel
theorem zd317_19 : decode zxm317.2.1 19 = .ok (.invokevirtual 309, 3) := by decide +kernel
theorem zd317_22 : decode zxm317.2.1 22 = .ok (.aload_n 0, 1) := by decide +kernel
theorem zd317_23 : decode zxm317.2.1 23 = .ok (.getfield 303, 3) := by decide +kernel
theorem zd317_26 : decode zxm317.2.1 26 = .ok (.istore 4, 2) := by decide +kernel
theorem zd317_28 : decode zxm317.2.1 28 = .ok (.iconst 0, 1) := by decide +kernel
theorem zd317_29 : decode zxm317.2.1 29 = .ok (.istore 5, 2) := by decide +kernel
theorem zd317_31 : decode zxm317.2.1 31 = .ok (.iload 5, 2) := by decide +kernel
theorem zd317_33 : decode zxm317.2.1 33 = .ok (.bipush 24, 2) := by decide +kernel
theorem zd317_35 : decode zxm317.2.1 35 = .ok (.if_icmp .ge 23, 3) := by decide +kernel
theorem zd317_38 : decode zxm317.2.1 38 = .ok (.aload_n 0, 1) := by decide +kernel
theorem zd317_39 : decode zxm317.2.1 39 = .ok (.getfield 122, 3) := by decide +kernel
theorem zd317_42 : decode zxm317.2.1 42 = .ok (.iload 5, 2) := by decide +kernel
theorem zd317_44 : decode zxm317.2.1 44 = .ok (.aload_n 0, 1) := by decide +kernel
theorem zd317_45 : decode zxm317.2.1 45 = .ok (.getfield 62, 3) := by decide +kernel
theorem zd317_48 : decode zxm317.2.1 48 = .ok (.iload 5, 2) := by decide +kernel
theorem zd317_50 : decode zxm317.2.1 50 = .ok (.iaload, 1) := by decide +kernel
theorem zd317_51 : decode zxm317.2.1 51 = .ok (.iastore, 1) := by decide +kernel
theorem zd317_52 : decode zxm317.2.1 52 = .ok (.iinc 5 1, 3) := by decide +kernel
theorem zd317_55 : decode zxm317.2.1 55 = .ok (.goto (-24), 3) := by decide +kernel
theorem zd317_58 : decode zxm317.2.1 58 = .ok (.aload_n 0, 1) := by decide +kernel
theorem zd317_59 : decode zxm317.2.1 59 = .ok (.invokevirtual 434, 3) := by decide +kernel
theorem zd317_62 : decode zxm317.2.1 62 = .ok (.bipush (-2), 2) := by decide +kernel
theorem zd317_64 : decode zxm317.2.1 64 = .ok (.istore 5, 2) := by decide +kernel
theorem zd317_66 : decode zxm317.2.1 66 = .ok (.iconst 1, 1) := by decide +kernel
theorem zd317_67 : decode zxm317.2.1 67 = .ok (.istore 6, 2) := by decide +kernel
theorem zd317_69 : decode zxm317.2.1 69 = .ok (.iload 6, 2) := by decide +kernel
theorem zd317_71 : decode zxm317.2.1 71 = .ok (.bipush 60, 2) := by decide +kernel
theorem zd317_73 : decode zxm317.2.1 73 = .ok (.if_icmp .gt 113, 3) := by decide +kernel
theorem zd317_76 : decode zxm317.2.1 76 = .ok (.iload 5, 2) := by decide +kernel
theorem zd317_78 : decode zxm317.2.1 78 = .ok (.bipush (-2), 2) := by decide +kernel
theorem zd317_80 : decode zxm317.2.1 80 = .ok (.if_icmp .ne 106, 3) := by decide +kernel
theorem zd317_83 : decode zxm317.2.1 83 = .ok (.aload_n 0, 1) := by decide +kernel
theorem zd317_84 : decode zxm317.2.1 84 = .ok (.getfield 7, 3) := by decide +kernel
theorem zd317_87 : decode zxm317.2.1 87 = .ok (.sipush 129, 3) := by decide +kernel
theorem zd317_90 : decode zxm317.2.1 90 = .ok (.aload_n 0, 1) := by decide +kernel
theorem zd317_91 : decode zxm317.2.1 91 = .ok (.getfield 7, 3) := by decide +kernel
theorem zd317_94 : decode zxm317.2.1 94 = .ok (.sipush 129, 3) := by decide +kernel
theorem zd317_97 : decode zxm317.2.1 97 = .ok (.iaload, 1) := by decide +kernel
theorem zd317_98 : decode zxm317.2.1 98 = .ok (.iconst 1, 1) := by decide +kernel
theorem zd317_99 : decode zxm317.2.1 99 = .ok (.iadd, 1) := by decide +kernel
theorem zd317_100 : decode zxm317.2.1 100 = .ok (.iastore, 1) := by decide +kernel
theorem zd317_101 : decode zxm317.2.1 101 = .ok (.aload_n 0, 1) := by decide +kernel
theorem zd317_102 : decode zxm317.2.1 102 = .ok (.invokevirtual 414, 3) := by decide +kernel
theorem zd317_105 : decode zxm317.2.1 105 = .ok (.aload_n 0, 1) := by decide +kernel
theorem zd317_106 : decode zxm317.2.1 106 = .ok (.iload_n 3, 1) := by decide +kernel
theorem zd317_107 : decode zxm317.2.1 107 = .ok (.invokevirtual 309, 3) := by decide +kernel
theorem zd317_110 : decode zxm317.2.1 110 = .ok (.aload_n 0, 1) := by decide +kernel
theorem zd317_111 : decode zxm317.2.1 111 = .ok (.getfield 303, 3) := by decide +kernel
theorem zd317_114 : decode zxm317.2.1 114 = .ok (.iload 4, 2) := by decide +kernel
theorem zd317_116 : decode zxm317.2.1 116 = .ok (.if_icmp .ne 7, 3) := by decide +kernel
theorem zd317_119 : decode zxm317.2.1 119 = .ok (.iconst 1, 1) := by decide +kernel
theorem zd317_120 : decode zxm317.2.1 120 = .ok (.goto 4, 3) := by decide +kernel
theorem zd317_123 : decode zxm317.2.1 123 = .ok (.iconst 0, 1) := by decide +kernel
theorem zd317_124 : decode zxm317.2.1 124 = .ok (.istore 7, 2) := by decide +kernel
theorem zd317_126 : decode zxm317.2.1 126 = .ok (.iconst 0, 1) := by decide +kernel
theorem zd317_127 : decode zxm317.2.1 127 = .ok (.istore 8, 2) := by decide +kernel
theorem zd317_129 : decode zxm317.2.1 129 = .ok (.iload 8, 2) := by decide +kernel
theorem zd317_131 : decode zxm317.2.1 131 = .ok (.bipush 24, 2) := by decide +kernel
theorem zd317_133 : decode zxm317.2.1 133 = .ok (.if_icmp .ge 38, 3) := by decide +kernel
theorem zd317_136 : decode zxm317.2.1 136 = .ok (.iload 7, 2) := by decide +kernel
theorem zd317_138 : decode zxm317.2.1 138 = .ok (.ifCond .eq 24, 3) := by decide +kernel
theorem zd317_141 : decode zxm317.2.1 141 = .ok (.aload_n 0, 1) := by decide +kernel
theorem zd317_142 : decode zxm317.2.1 142 = .ok (.getfield 62, 3) := by decide +kernel
theorem zd317_145 : decode zxm317.2.1 145 = .ok (.iload 8, 2) := by decide +kernel
theorem zd317_147 : decode zxm317.2.1 147 = .ok (.iaload, 1) := by decide +kernel
theorem zd317_148 : decode zxm317.2.1 148 = .ok (.aload_n 0, 1) := by decide +kernel
theorem zd317_149 : decode zxm317.2.1 149 = .ok (.getfield 122, 3) := by decide +kernel
theorem zd317_152 : decode zxm317.2.1 152 = .ok (.iload 8, 2) := by decide +kernel
theorem zd317_154 : decode zxm317.2.1 154 = .ok (.iaload, 1) := by decide +kernel
theorem zd317_155 : decode zxm317.2.1 155 = .ok (.if_icmp .ne 7, 3) := by decide +kernel
theorem zd317_158 : decode zxm317.2.1 158 = .ok (.iconst 1, 1) := by decide +kernel
theorem zd317_159 : decode zxm317.2.1 159 = .ok (.goto 4, 3) := by decide +kernel
theorem zd317_162 : decode zxm317.2.1 162 = .ok (.iconst 0, 1) := by decide +kernel
theorem zd317_163 : decode zxm317.2.1 163 = .ok (.istore 7, 2) := by decide +kernel
theorem zd317_165 : decode zxm317.2.1 165 = .ok (.iinc 8 1, 3) := by decide +kernel
theorem zd317_168 : decode zxm317.2.1 168 = .ok (.goto (-39), 3) := by decide +kernel
theorem zd317_171 : decode zxm317.2.1 171 = .ok (.iload 7, 2) := by decide +kernel
theorem zd317_173 : decode zxm317.2.1 173 = .ok (.ifCond .eq 7, 3) := by decide +kernel
theorem zd317_176 : decode zxm317.2.1 176 = .ok (.iload 6, 2) := by decide +kernel
theorem zd317_178 : decode zxm317.2.1 178 = .ok (.istore 5, 2) := by decide +kernel
theorem zd317_180 : decode zxm317.2.1 180 = .ok (.iinc 6 1, 3) := by decide +kernel
theorem zd317_183 : decode zxm317.2.1 183 = .ok (.goto (-114), 3) := by decide +kernel
theorem zd317_186 : decode zxm317.2.1 186 = .ok (.aload_n 0, 1) := by decide +kernel
theorem zd317_187 : decode zxm317.2.1 187 = .ok (.invokevirtual 437, 3) := by decide +kernel
theorem zd317_190 : decode zxm317.2.1 190 = .ok (.iload 5, 2) := by decide +kernel
theorem zd317_192 : decode zxm317.2.1 192 = .ok (.ireturn, 1) := by decide +kernel
theorem zt_M_home {x1 : Int} {x2 : Int} {f0 : Int} {f1 : Int} {g0 : (Int → Int)} {g1 : (Int → Int)} {g2 : (Int → Int)} {g3 : (Int → Int)} {g4 : (Int → Int)} {g5 : (Int → Int)} {g6 : (Int → Int)} {g7 : (Int → Int)} {g8 : (Int → Int)} {g9 : (Int → Int)} {o : Int × Int × (Int → Int) × (Int → Int) × (Int → Int) × (Int → Int) × (Int → Int) × (Int → Int)} (h : zf_M_home x1 x2 f0 f1 g0 g1 g2 g3 g4 g5 g6 g7 g8 g9 = some o) : zv_Fn z_TB z_cl z_KX zy_M_home zxm317 (6, 360) [.inr 0, .inl x1, .inl x2] [.inl f0, .inl f1] [g0, g1, g2, g3, g4, g5, g6, g7, g8, g9] (some o.1) [.inl f0, .inl o.2.1] [o.2.2.1, g1, o.2.2.2.1, g3, g4, g5, o.2.2.2.2.1, o.2.2.2.2.2.1, o.2.2.2.2.2.2.1, o.2.2.2.2.2.2.2] := zv_meth (K := (z_KF13, z_KC13, z_KL13, z_KT13, [], [], [], none)) (FT := z_FT) (MT := z_MT) (n := 3) zxp317 (z_ks13 _ (fun _ h => List.mem_cons_of_mem _ h) _ _ _ _ (fun j r h _ => by cases h)) (fun _ _ => zs_KX_p) zyw_M_home (fun va F G h => by obtain ⟨rfl, _⟩ := h; rfl) (fun va F G h => by obtain ⟨rfl, _⟩ := h; rfl) rfl fun good va F G hB hret hvret hP => by
  obtain ⟨rfl, rfl, rfl⟩ := hP
  have l0 : ∀ (n : Nat) (x3 : Int) (x4 : Int) (x5 : Int) (f1 : Int) (g0 : (Int → Int)) (g2 : (Int → Int)) (g6 : (Int → Int)) (g7 : (Int → Int)) (g8 : (Int → Int)) (g9 : (Int → Int)) (q : (Int → Int)), zf_M_home_l0 g7 n x5 g8 = some q → (good 58 [.inr 0, .inr 1000, .inr 1000, .inl x3, .inl x4, .inr 1000, .inr 1000, .inr 1000, .inr 1000] [] [.inl f0, .inl f1] [g0, g1, g2, g3, g4, g5, g6, g7, q, g9]) → good 31 [.inr 0, .inr 1000, .inr 1000, .inl x3, .inl x4, .inl x5, .inr 1000, .inr 1000, .inr 1000] [] [.inl f0, .inl f1] [g0, g1, g2, g3, g4, g5, g6, g7, g8, g9] := by
    intro n
    induction n with
    | zero => intro x3 x4 x5 f1 g0 g2 g6 g7 g8 g9 q h; exact absurd (show none = some q from h) (fun h => by cases h)
    | succ n ih =>
      intro x3 x4 x5 f1 g0 g2 g6 g7 g8 g9 q h hK
      replace h : zf_M_home_l0_b g7 (zf_M_home_l0 g7 n) x5 g8 = some q := h
      unfold zf_M_home_l0_b at h
      refine zv_ild hB zd317_31 rfl rfl ?_
      refine zv_con hB zd317_33 rfl ?_
      refine zv_cge hB zd317_35 rfl (fun hc4 => ?_) (fun hc4 => ?_)
      · rw [if_neg (Int.not_lt.mpr hc4)] at h
        have hq := Option.some.inj h
        subst hq
        refine zv_wk hB (L' := [.inr 0, .inr 1000, .inr 1000, .inl x3, .inl x4, .inr 1000, .inr 1000, .inr 1000, .inr 1000]) (F' := [.inl f0, .inl f1]) ⟨fun _ => rfl, fun (h : zv_is (.inr 1000)) => (Nat.lt_irrefl 1000 h).elim, fun (h : zv_is (.inr 1000)) => (Nat.lt_irrefl 1000 h).elim, fun _ => rfl, fun _ => rfl, fun (h : zv_is (.inr 1000)) => (Nat.lt_irrefl 1000 h).elim, fun (h : zv_is (.inr 1000)) => (Nat.lt_irrefl 1000 h).elim, fun (h : zv_is (.inr 1000)) => (Nat.lt_irrefl 1000 h).elim, fun (h : zv_is (.inr 1000)) => (Nat.lt_irrefl 1000 h).elim, trivial⟩ ⟨fun _ => rfl, fun _ => rfl, trivial⟩ ?_
        exact hK
      · rw [if_pos hc4] at h
        refine zv_ald hB zd317_38 rfl rfl rfl ?_
        refine zv_getr hB zd317_39 rfl ?_
        refine zv_ild hB zd317_42 rfl rfl ?_
        refine zv_ald hB zd317_44 rfl rfl rfl ?_
        refine zv_getr hB zd317_45 rfl ?_
        refine zv_ild hB zd317_48 rfl rfl ?_
        obtain ⟨c5, h⟩ := zi_if h
        refine zv_iald hB zd317_50 rfl rfl (zi_ix_ok c5).1 (zi_ix_ok c5).2 (fun _ _ => ?_)
        refine zv_iast hB zd317_51 rfl rfl (zi_ix_ok c5).1 (zi_ix_ok c5).2 ?_
        refine zv_iincw hB zd317_52 rfl rfl ?_
        refine zv_goto hB zd317_55 rfl ?_
        exact ih _ _ _ _ _ _ _ _ _ _ q h hK
  have l2 : ∀ (n : Nat) (x3 : Int) (x4 : Int) (x5 : Int) (x6 : Int) (x7 : Int) (x8 : Int) (f1 : Int) (g0 : (Int → Int)) (g2 : (Int → Int)) (g6 : (Int → Int)) (g7 : (Int → Int)) (g8 : (Int → Int)) (g9 : (Int → Int)) (q : Int), zf_M_home_l2 g7 g8 n x7 x8 = some q → (good 171 [.inr 0, .inr 1000, .inr 1000, .inl x3, .inl x4, .inl x5, .inl x6, .inl q, .inr 1000] [] [.inl f0, .inl f1] [g0, g1, g2, g3, g4, g5, g6, g7, g8, g9]) → good 129 [.inr 0, .inr 1000, .inr 1000, .inl x3, .inl x4, .inl x5, .inl x6, .inl x7, .inl x8] [] [.inl f0, .inl f1] [g0, g1, g2, g3, g4, g5, g6, g7, g8, g9] := by
    intro n
    induction n with
    | zero => intro x3 x4 x5 x6 x7 x8 f1 g0 g2 g6 g7 g8 g9 q h; exact absurd (show none = some q from h) (fun h => by cases h)
    | succ n ih =>
      intro x3 x4 x5 x6 x7 x8 f1 g0 g2 g6 g7 g8 g9 q h hK
      replace h : zf_M_home_l2_b g7 g8 (zf_M_home_l2 g7 g8 n) x7 x8 = some q := h
      unfold zf_M_home_l2_b at h
      refine zv_ild hB zd317_129 rfl rfl ?_
      refine zv_con hB zd317_131 rfl ?_
      refine zv_cge hB zd317_133 rfl (fun hc13 => ?_) (fun hc13 => ?_)
      · rw [if_neg (Int.not_lt.mpr hc13)] at h
        have hq := Option.some.inj h
        subst hq
        refine zv_wk hB (L' := [.inr 0, .inr 1000, .inr 1000, .inl x3, .inl x4, .inl x5, .inl x6, .inl x7, .inr 1000]) (F' := [.inl f0, .inl f1]) ⟨fun _ => rfl, fun (h : zv_is (.inr 1000)) => (Nat.lt_irrefl 1000 h).elim, fun (h : zv_is (.inr 1000)) => (Nat.lt_irrefl 1000 h).elim, fun _ => rfl, fun _ => rfl, fun _ => rfl, fun _ => rfl, fun _ => rfl, fun (h : zv_is (.inr 1000)) => (Nat.lt_irrefl 1000 h).elim, trivial⟩ ⟨fun _ => rfl, fun _ => rfl, trivial⟩ ?_
        exact hK
      · rw [if_pos hc13] at h
        refine zv_ild hB zd317_136 rfl rfl ?_
        refine zv_zeq hB zd317_138 rfl (fun hc14 => ?_) (fun hc14 => ?_)
        · rw [if_pos hc14] at h
          refine zv_con hB zd317_162 rfl ?_
          refine zv_ist hB zd317_163 rfl rfl rfl ?_
          refine zv_iincw hB zd317_165 rfl rfl ?_
          refine zv_goto hB zd317_168 rfl ?_
          exact ih _ _ _ _ _ _ _ _ _ _ _ _ _ q h hK
        · rw [if_neg hc14] at h
          refine zv_ald hB zd317_141 rfl rfl rfl ?_
          refine zv_getr hB zd317_142 rfl ?_
          refine zv_ild hB zd317_145 rfl rfl ?_
          obtain ⟨c15, h⟩ := zi_if h
          refine zv_iald hB zd317_147 rfl rfl (zi_ix_ok c15).1 (zi_ix_ok c15).2 (fun _ _ => ?_)
          refine zv_ald hB zd317_148 rfl rfl rfl ?_
          refine zv_getr hB zd317_149 rfl ?_
          refine zv_ild hB zd317_152 rfl rfl ?_
          refine zv_iald hB zd317_154 rfl rfl (zi_ix_ok c15).1 (zi_ix_ok c15).2 (fun _ _ => ?_)
          refine zv_cne hB zd317_155 rfl (fun hc16 => ?_) (fun hc16 => ?_)
          · rw [if_neg hc16] at h
            refine zv_con hB zd317_162 rfl ?_
            refine zv_ist hB zd317_163 rfl rfl rfl ?_
            refine zv_iincw hB zd317_165 rfl rfl ?_
            refine zv_goto hB zd317_168 rfl ?_
            exact ih _ _ _ _ _ _ _ _ _ _ _ _ _ q h hK
          · rw [if_pos hc16] at h
            refine zv_con hB zd317_158 rfl ?_
            refine zv_goto hB zd317_159 rfl ?_
            refine zv_ist hB zd317_163 rfl rfl rfl ?_
            refine zv_iincw hB zd317_165 rfl rfl ?_
            refine zv_goto hB zd317_168 rfl ?_
            exact ih _ _ _ _ _ _ _ _ _ _ _ _ _ q h hK
  have l1 : ∀ (n : Nat) (x3 : Int) (x4 : Int) (x5 : Int) (x6 : Int) (f1 : Int) (g0 : (Int → Int)) (g2 : (Int → Int)) (g6 : (Int → Int)) (g7 : (Int → Int)) (g8 : (Int → Int)) (g9 : (Int → Int)) (q : Int × Int × (Int → Int) × (Int → Int) × (Int → Int) × (Int → Int)), zf_M_home_l1 x3 x4 f0 g1 g3 g4 g5 g8 n x5 x6 f1 g0 g2 g6 g7 = some q → (good 186 [.inr 0, .inr 1000, .inr 1000, .inr 1000, .inr 1000, .inl q.1, .inr 1000, .inr 1000, .inr 1000] [] [.inl f0, .inl q.2.1] [q.2.2.1, g1, q.2.2.2.1, g3, g4, g5, q.2.2.2.2.1, q.2.2.2.2.2, g8, g9]) → good 69 [.inr 0, .inr 1000, .inr 1000, .inl x3, .inl x4, .inl x5, .inl x6, .inr 1000, .inr 1000] [] [.inl f0, .inl f1] [g0, g1, g2, g3, g4, g5, g6, g7, g8, g9] := by
    intro n
    induction n with
    | zero => intro x3 x4 x5 x6 f1 g0 g2 g6 g7 g8 g9 q h; exact absurd (show none = some q from h) (fun h => by cases h)
    | succ n ih =>
      intro x3 x4 x5 x6 f1 g0 g2 g6 g7 g8 g9 q h hK
      replace h : zf_M_home_l1_b x3 x4 f0 g1 g3 g4 g5 g8 (zf_M_home_l1 x3 x4 f0 g1 g3 g4 g5 g8 n) x5 x6 f1 g0 g2 g6 g7 = some q := h
      unfold zf_M_home_l1_b at h
      refine zv_ild hB zd317_69 rfl rfl ?_
      refine zv_con hB zd317_71 rfl ?_
      refine zv_cgt hB zd317_73 rfl (fun hc8 => ?_) (fun hc8 => ?_)
      · rw [if_pos hc8] at h
        have hq := Option.some.inj h
        subst hq
        refine zv_wk hB (L' := [.inr 0, .inr 1000, .inr 1000, .inr 1000, .inr 1000, .inl x5, .inr 1000, .inr 1000, .inr 1000]) (F' := [.inl f0, .inl f1]) ⟨fun _ => rfl, fun (h : zv_is (.inr 1000)) => (Nat.lt_irrefl 1000 h).elim, fun (h : zv_is (.inr 1000)) => (Nat.lt_irrefl 1000 h).elim, fun (h : zv_is (.inr 1000)) => (Nat.lt_irrefl 1000 h).elim, fun (h : zv_is (.inr 1000)) => (Nat.lt_irrefl 1000 h).elim, fun _ => rfl, fun (h : zv_is (.inr 1000)) => (Nat.lt_irrefl 1000 h).elim, fun (h : zv_is (.inr 1000)) => (Nat.lt_irrefl 1000 h).elim, fun (h : zv_is (.inr 1000)) => (Nat.lt_irrefl 1000 h).elim, trivial⟩ ⟨fun _ => rfl, fun _ => rfl, trivial⟩ ?_
        exact hK
      · rw [if_neg (Int.not_lt.mpr hc8)] at h
        refine zv_ild hB zd317_76 rfl rfl ?_
        refine zv_con hB zd317_78 rfl ?_
        refine zv_cne hB zd317_80 rfl (fun hc9 => ?_) (fun hc9 => ?_)
        · rw [if_neg hc9] at h
          have hq := Option.some.inj h
          subst hq
          refine zv_wk hB (L' := [.inr 0, .inr 1000, .inr 1000, .inr 1000, .inr 1000, .inl x5, .inr 1000, .inr 1000, .inr 1000]) (F' := [.inl f0, .inl f1]) ⟨fun _ => rfl, fun (h : zv_is (.inr 1000)) => (Nat.lt_irrefl 1000 h).elim, fun (h : zv_is (.inr 1000)) => (Nat.lt_irrefl 1000 h).elim, fun (h : zv_is (.inr 1000)) => (Nat.lt_irrefl 1000 h).elim, fun (h : zv_is (.inr 1000)) => (Nat.lt_irrefl 1000 h).elim, fun _ => rfl, fun (h : zv_is (.inr 1000)) => (Nat.lt_irrefl 1000 h).elim, fun (h : zv_is (.inr 1000)) => (Nat.lt_irrefl 1000 h).elim, fun (h : zv_is (.inr 1000)) => (Nat.lt_irrefl 1000 h).elim, trivial⟩ ⟨fun _ => rfl, fun _ => rfl, trivial⟩ ?_
          exact hK
        · rw [if_pos hc9] at h
          refine zv_ald hB zd317_83 rfl rfl rfl ?_
          refine zv_getr hB zd317_84 rfl ?_
          refine zv_con hB zd317_87 rfl ?_
          refine zv_ald hB zd317_90 rfl rfl rfl ?_
          refine zv_getr hB zd317_91 rfl ?_
          refine zv_con hB zd317_94 rfl ?_
          refine zv_iald hB zd317_97 rfl rfl (by decide) (by decide) (fun _ _ => ?_)
          refine zv_con hB zd317_98 rfl ?_
          refine zv_addw hB zd317_99 ?_
          refine zv_iast hB zd317_100 rfl rfl (by decide) (by decide) ?_
          refine zv_ald hB zd317_101 rfl rfl rfl ?_
          obtain ⟨r10, hr10, h⟩ := zi_bind h
          refine zv_cv hB (zv_emq (va2 := [.inr 0]) (F := [.inl f0, .inl f1]) (F' := [.inl f0, .inl f1]) (G := [(zv_up g0 129 (zi_w ((g0 129) + 1))), g1, g2, g3, g4, g5, g6, g7, g8, g9]) (G' := [r10, g1, g2, g3, g4, g5, g6, g7, g8, g9]) (ρ := [0, 1]) (φ := []) (ψ := [0]) [none, none] [some 0, none, none, none, none, none, none, none, none, none] zyw_M_walks zyw_M_home zye_M_home (by decide +kernel) (zt_M_walks hr10) trivial ⟨rfl, trivial⟩ rfl rfl rfl rfl rfl rfl rfl) zd317_102 zxt295 rfl (by decide) (by decide) rfl ?_
          refine zv_ald hB zd317_105 rfl rfl rfl ?_
          refine zv_ild hB zd317_106 rfl rfl ?_
          obtain ⟨r11, hr11, h⟩ := zi_bind h
          refine zv_cv hB (zv_emq (va2 := [.inr 0, .inl x3]) (F := [.inl f0, .inl f1]) (F' := [.inl f0, .inl r11.1]) (G := [r10, g1, g2, g3, g4, g5, g6, g7, g8, g9]) (G' := [r10, g1, r11.2.1, g3, g4, g5, r11.2.2.1, r11.2.2.2, g8, g9]) (ρ := [0, 1, 2, 3, 4, 5, 6, 7, 8]) (φ := [0, 1]) (ψ := [0, 1, 2, 3, 4, 5, 6, 7]) [some 0, some 1] [some 0, some 1, some 2, some 3, some 4, some 5, some 6, some 7, none, none] zyw_M_looks zyw_M_home zye_M_home (by decide +kernel) (zt_M_looks hr11) ⟨⟨_, rfl, fun _ => rfl⟩, ⟨_, rfl, fun _ => rfl⟩, trivial⟩ ⟨rfl, rfl, rfl, rfl, rfl, rfl, rfl, rfl, trivial⟩ rfl rfl rfl rfl rfl rfl rfl) zd317_107 zxt252 rfl (by decide) (by decide) rfl ?_
          refine zv_ald hB zd317_110 rfl rfl rfl ?_
          refine zv_getf hB zd317_111 rfl rfl (fun _ _ => ?_)
          refine zv_ild hB zd317_114 rfl rfl ?_
          refine zv_cne hB zd317_116 rfl (fun hc12 => ?_) (fun hc12 => ?_)
          · rw [if_neg hc12] at h
            refine zv_con hB zd317_123 rfl ?_
            refine zv_ist hB zd317_124 rfl rfl rfl ?_
            refine zv_con hB zd317_126 rfl ?_
            refine zv_ist hB zd317_127 rfl rfl rfl ?_
            obtain ⟨q17, hq17, h⟩ := zi_bind h
            refine l2 _ _ _ _ _ _ _ _ _ _ _ _ _ _ q17 hq17 ?_
            show good 171 [.inr 0, .inr 1000, .inr 1000, .inl x3, .inl x4, .inl x5, .inl x6, .inl q17, .inr 1000] [] [.inl f0, .inl r11.1] [r10, g1, r11.2.1, g3, g4, g5, r11.2.2.1, r11.2.2.2, g8, g9]
            refine zv_ild hB zd317_171 rfl rfl ?_
            refine zv_zeq hB zd317_173 rfl (fun hc18 => ?_) (fun hc18 => ?_)
            · rw [if_pos hc18] at h
              refine zv_iincw hB zd317_180 rfl rfl ?_
              refine zv_goto hB zd317_183 rfl ?_
              refine zv_wk hB (L' := [.inr 0, .inr 1000, .inr 1000, .inl x3, .inl x4, .inl x5, .inl (zi_w (x6 + 1)), .inr 1000, .inr 1000]) (F' := [.inl f0, .inl r11.1]) ⟨fun _ => rfl, fun (h : zv_is (.inr 1000)) => (Nat.lt_irrefl 1000 h).elim, fun (h : zv_is (.inr 1000)) => (Nat.lt_irrefl 1000 h).elim, fun _ => rfl, fun _ => rfl, fun _ => rfl, fun _ => rfl, fun (h : zv_is (.inr 1000)) => (Nat.lt_irrefl 1000 h).elim, fun (h : zv_is (.inr 1000)) => (Nat.lt_irrefl 1000 h).elim, trivial⟩ ⟨fun _ => rfl, fun _ => rfl, trivial⟩ ?_
              exact ih _ _ _ _ _ _ _ _ _ _ _ q h hK
            · rw [if_neg hc18] at h
              refine zv_ild hB zd317_176 rfl rfl ?_
              refine zv_ist hB zd317_178 rfl rfl rfl ?_
              refine zv_iincw hB zd317_180 rfl rfl ?_
              refine zv_goto hB zd317_183 rfl ?_
              refine zv_wk hB (L' := [.inr 0, .inr 1000, .inr 1000, .inl x3, .inl x4, .inl x6, .inl (zi_w (x6 + 1)), .inr 1000, .inr 1000]) (F' := [.inl f0, .inl r11.1]) ⟨fun _ => rfl, fun (h : zv_is (.inr 1000)) => (Nat.lt_irrefl 1000 h).elim, fun (h : zv_is (.inr 1000)) => (Nat.lt_irrefl 1000 h).elim, fun _ => rfl, fun _ => rfl, fun _ => rfl, fun _ => rfl, fun (h : zv_is (.inr 1000)) => (Nat.lt_irrefl 1000 h).elim, fun (h : zv_is (.inr 1000)) => (Nat.lt_irrefl 1000 h).elim, trivial⟩ ⟨fun _ => rfl, fun _ => rfl, trivial⟩ ?_
              exact ih _ _ _ _ _ _ _ _ _ _ _ q h hK
          · rw [if_pos hc12] at h
            refine zv_con hB zd317_119 rfl ?_
            refine zv_goto hB zd317_120 rfl ?_
            refine zv_ist hB zd317_124 rfl rfl rfl ?_
            refine zv_con hB zd317_126 rfl ?_
            refine zv_ist hB zd317_127 rfl rfl rfl ?_
            obtain ⟨q19, hq19, h⟩ := zi_bind h
            refine l2 _ _ _ _ _ _ _ _ _ _ _ _ _ _ q19 hq19 ?_
            show good 171 [.inr 0, .inr 1000, .inr 1000, .inl x3, .inl x4, .inl x5, .inl x6, .inl q19, .inr 1000] [] [.inl f0, .inl r11.1] [r10, g1, r11.2.1, g3, g4, g5, r11.2.2.1, r11.2.2.2, g8, g9]
            refine zv_ild hB zd317_171 rfl rfl ?_
            refine zv_zeq hB zd317_173 rfl (fun hc20 => ?_) (fun hc20 => ?_)
            · rw [if_pos hc20] at h
              refine zv_iincw hB zd317_180 rfl rfl ?_
              refine zv_goto hB zd317_183 rfl ?_
              refine zv_wk hB (L' := [.inr 0, .inr 1000, .inr 1000, .inl x3, .inl x4, .inl x5, .inl (zi_w (x6 + 1)), .inr 1000, .inr 1000]) (F' := [.inl f0, .inl r11.1]) ⟨fun _ => rfl, fun (h : zv_is (.inr 1000)) => (Nat.lt_irrefl 1000 h).elim, fun (h : zv_is (.inr 1000)) => (Nat.lt_irrefl 1000 h).elim, fun _ => rfl, fun _ => rfl, fun _ => rfl, fun _ => rfl, fun (h : zv_is (.inr 1000)) => (Nat.lt_irrefl 1000 h).elim, fun (h : zv_is (.inr 1000)) => (Nat.lt_irrefl 1000 h).elim, trivial⟩ ⟨fun _ => rfl, fun _ => rfl, trivial⟩ ?_
              exact ih _ _ _ _ _ _ _ _ _ _ _ q h hK
            · rw [if_neg hc20] at h
              refine zv_ild hB zd317_176 rfl rfl ?_
              refine zv_ist hB zd317_178 rfl rfl rfl ?_
              refine zv_iincw hB zd317_180 rfl rfl ?_
              refine zv_goto hB zd317_183 rfl ?_
              refine zv_wk hB (L' := [.inr 0, .inr 1000, .inr 1000, .inl x3, .inl x4, .inl x6, .inl (zi_w (x6 + 1)), .inr 1000, .inr 1000]) (F' := [.inl f0, .inl r11.1]) ⟨fun _ => rfl, fun (h : zv_is (.inr 1000)) => (Nat.lt_irrefl 1000 h).elim, fun (h : zv_is (.inr 1000)) => (Nat.lt_irrefl 1000 h).elim, fun _ => rfl, fun _ => rfl, fun _ => rfl, fun _ => rfl, fun (h : zv_is (.inr 1000)) => (Nat.lt_irrefl 1000 h).elim, fun (h : zv_is (.inr 1000)) => (Nat.lt_irrefl 1000 h).elim, trivial⟩ ⟨fun _ => rfl, fun _ => rfl, trivial⟩ ?_
              exact ih _ _ _ _ _ _ _ _ _ _ _ q h hK
  unfold zf_M_home at h
  refine zv_ild hB zd317_0 rfl rfl ?_
  refine zv_ild hB zd317_1 rfl rfl ?_
  obtain ⟨r1, hr1, h⟩ := zi_bind h
  refine zv_cs hB (zv_emq (va2 := [.inl x1, .inl x2]) (F := [.inl f0, .inl f1]) (F' := [.inl f0, .inl f1]) (G := [g0, g1, g2, g3, g4, g5, g6, g7, g8, g9]) (G' := [g0, g1, g2, g3, g4, g5, g6, g7, g8, g9]) (ρ := []) (φ := []) (ψ := []) [none, none] [none, none, none, none, none, none, none, none, none, none] zyw_M_isPlace zyw_M_home zye_M_home (by decide +kernel) (zt_M_isPlace hr1) trivial trivial rfl rfl rfl rfl rfl rfl rfl) zd317_2 zxt201 rfl (by decide) (by decide) rfl ?_
  refine zv_zne hB zd317_5 rfl (fun hc2 => ?_) (fun hc2 => ?_)
  · rw [if_neg hc2] at h
    refine zv_con hB zd317_10 rfl ?_
    refine zv_ild hB zd317_12 rfl rfl ?_
    refine zv_mulw hB zd317_13 ?_
    refine zv_ild hB zd317_14 rfl rfl ?_
    refine zv_addw hB zd317_15 ?_
    refine zv_ist hB zd317_16 rfl rfl rfl ?_
    refine zv_ald hB zd317_17 rfl rfl rfl ?_
    refine zv_ild hB zd317_18 rfl rfl ?_
    obtain ⟨r3, hr3, h⟩ := zi_bind h
    refine zv_cv hB (zv_emq (va2 := [.inr 0, .inl (zi_w ((zi_w (24 * x2)) + x1))]) (F := [.inl f0, .inl f1]) (F' := [.inl f0, .inl r3.1]) (G := [g0, g1, g2, g3, g4, g5, g6, g7, g8, g9]) (G' := [g0, g1, r3.2.1, g3, g4, g5, r3.2.2.1, r3.2.2.2, g8, g9]) (ρ := [0, 1, 2, 3, 4, 5, 6, 7, 8]) (φ := [0, 1]) (ψ := [0, 1, 2, 3, 4, 5, 6, 7]) [some 0, some 1] [some 0, some 1, some 2, some 3, some 4, some 5, some 6, some 7, none, none] zyw_M_looks zyw_M_home zye_M_home (by decide +kernel) (zt_M_looks hr3) ⟨⟨_, rfl, fun _ => rfl⟩, ⟨_, rfl, fun _ => rfl⟩, trivial⟩ ⟨rfl, rfl, rfl, rfl, rfl, rfl, rfl, rfl, trivial⟩ rfl rfl rfl rfl rfl rfl rfl) zd317_19 zxt252 rfl (by decide) (by decide) rfl ?_
    refine zv_ald hB zd317_22 rfl rfl rfl ?_
    refine zv_getf hB zd317_23 rfl rfl (fun _ _ => ?_)
    refine zv_ist hB zd317_26 rfl rfl rfl ?_
    refine zv_con hB zd317_28 rfl ?_
    refine zv_ist hB zd317_29 rfl rfl rfl ?_
    obtain ⟨q6, hq6, h⟩ := zi_bind h
    refine zv_wk hB (L' := [.inr 0, .inr 1000, .inr 1000, .inl (zi_w ((zi_w (24 * x2)) + x1)), .inl r3.1, .inl 0, .inr 1000, .inr 1000, .inr 1000]) (F' := [.inl f0, .inl r3.1]) ⟨fun _ => rfl, fun (h : zv_is (.inr 1000)) => (Nat.lt_irrefl 1000 h).elim, fun (h : zv_is (.inr 1000)) => (Nat.lt_irrefl 1000 h).elim, fun _ => rfl, fun _ => rfl, fun _ => rfl, fun (h : zv_is (.inr 1000)) => (Nat.lt_irrefl 1000 h).elim, fun (h : zv_is (.inr 1000)) => (Nat.lt_irrefl 1000 h).elim, fun (h : zv_is (.inr 1000)) => (Nat.lt_irrefl 1000 h).elim, trivial⟩ ⟨fun _ => rfl, fun _ => rfl, trivial⟩ ?_
    refine l0 _ _ _ _ _ _ _ _ _ _ _ q6 hq6 ?_
    show good 58 [.inr 0, .inr 1000, .inr 1000, .inl (zi_w ((zi_w (24 * x2)) + x1)), .inl r3.1, .inr 1000, .inr 1000, .inr 1000, .inr 1000] [] [.inl f0, .inl r3.1] [g0, g1, r3.2.1, g3, g4, g5, r3.2.2.1, r3.2.2.2, q6, g9]
    refine zv_ald hB zd317_58 rfl rfl rfl ?_
    obtain ⟨r7, hr7, h⟩ := zi_bind h
    refine zv_cv hB (zv_emq (va2 := [.inr 0]) (F := [.inl f0, .inl r3.1]) (F' := [.inl f0, .inl r3.1]) (G := [g0, g1, r3.2.1, g3, g4, g5, r3.2.2.1, r3.2.2.2, q6, g9]) (G' := [g0, g1, r3.2.1, g3, g4, g5, r3.2.2.1, r3.2.2.2, q6, r7]) (ρ := [0, 1, 10]) (φ := []) (ψ := [0, 9]) [none, none] [some 0, none, none, none, none, none, none, none, none, some 1] zyw_M_begins zyw_M_home zye_M_home (by decide +kernel) (zt_M_begins hr7) trivial ⟨rfl, rfl, trivial⟩ rfl rfl rfl rfl rfl rfl rfl) zd317_59 zxt299 rfl (by decide) (by decide) rfl ?_
    refine zv_con hB zd317_62 rfl ?_
    refine zv_ist hB zd317_64 rfl rfl rfl ?_
    refine zv_con hB zd317_66 rfl ?_
    refine zv_ist hB zd317_67 rfl rfl rfl ?_
    obtain ⟨q21, hq21, h⟩ := zi_bind h
    refine l1 _ _ _ _ _ _ _ _ _ _ _ _ q21 hq21 ?_
    show good 186 [.inr 0, .inr 1000, .inr 1000, .inr 1000, .inr 1000, .inl q21.1, .inr 1000, .inr 1000, .inr 1000] [] [.inl f0, .inl q21.2.1] [q21.2.2.1, g1, q21.2.2.2.1, g3, g4, g5, q21.2.2.2.2.1, q21.2.2.2.2.2, q6, r7]
    refine zv_ald hB zd317_186 rfl rfl rfl ?_
    obtain ⟨r22, hr22, h⟩ := zi_bind h
    refine zv_cv hB (zv_emq (va2 := [.inr 0]) (F := [.inl f0, .inl q21.2.1]) (F' := [.inl f0, .inl q21.2.1]) (G := [q21.2.2.1, g1, q21.2.2.2.1, g3, g4, g5, q21.2.2.2.2.1, q21.2.2.2.2.2, q6, r7]) (G' := [r22, g1, q21.2.2.2.1, g3, g4, g5, q21.2.2.2.2.1, q21.2.2.2.2.2, q6, r7]) (ρ := [0, 10, 1]) (φ := []) (ψ := [9, 0]) [none, none] [some 1, none, none, none, none, none, none, none, none, some 0] zyw_M_again zyw_M_home zye_M_home (by decide +kernel) (zt_M_again hr22) trivial ⟨rfl, rfl, trivial⟩ rfl rfl rfl rfl rfl rfl rfl) zd317_187 zxt301 rfl (by decide) (by decide) rfl ?_
    refine zv_ild hB zd317_190 rfl rfl ?_
    have hw := Option.some.inj h
    subst hw
    exact hret _ _ _ _ _ zd317_192 (by trivial) ⟨rfl, rfl, rfl⟩
  · rw [if_pos hc2] at h
    refine zv_con hB zd317_8 rfl ?_
    have hw := Option.some.inj h
    subst hw
    exact hret _ _ _ _ _ zd317_9 (by trivial) ⟨rfl, rfl, rfl⟩
/-! M_seed (I)Z -/
-- names: 0 StarTalesModel('arg', 0), 1 (0, 422)(0, 12, 0)
-- fields: ; arrays: g0 = 1; out: [('ret', None), ('g', 0)]
abbrev zy_M_seed : zNL := (2, [(0, 12)], [], [(0, 12, 0, 1)], [(1, 0, 422, 0)])
theorem zyw_M_seed : zv_wf zy_M_seed = true := by decide +kernel
theorem zye_M_seed : zv_ek2 zy_M_seed = true := by decide +kernel
def zf_M_seed (x1 : Int) (g0 : (Int → Int)) : Option (Int × (Int → Int)) := (zf_M_in x1 0 65535).bind fun r1 => (if r1 = 0 then (some (0, g0)) else (some (1, (zv_up g0 133 x1))))
theorem zd318_0 : decode zxm318.2.1 0 = .ok (.iload_n 1, 1) := by decide +kernel
theorem zd318_1 : decode zxm318.2.1 1 = .ok (.iconst 0, 1) := by decide +kernel
theorem zd318_2 : decode zxm318.2.1 2 = .ok (.ldc_w 478, 3) := by decide +kernel
theorem zd318_5 : decode zxm318.2.1 5 = .ok (.invokestatic 150, 3) := by decide +kernel
theorem zd318_8 : decode zxm318.2.1 8 = .ok (.ifCond .ne 5, 3) := by decide +kernel
theorem zd318_11 : decode zxm318.2.1 11 = .ok (.iconst 0, 1) := by decide +kernel
theorem zd318_12 : decode zxm318.2.1 12 = .ok (.ireturn, 1) := by decide +kernel
theorem zd318_13 : decode zxm318.2.1 13 = .ok (.aload_n 0, 1) := by decide +kernel
theorem zd318_14 : decode zxm318.2.1 14 = .ok (.getfield 7, 3) := by decide +kernel
theorem zd318_17 : decode zxm318.2.1 17 = .ok (.sipush 133, 3) := by decide +kernel
theorem zd318_20 : decode zxm318.2.1 20 = .ok (.iload_n 1, 1) := by decide +kernel
theorem zd318_21 : decode zxm318.2.1 21 = .ok (.iastore, 1) := by decide +kernel
theorem zd318_22 : decode zxm318.2.1 22 = .ok (.iconst 1, 1) := by decide +kernel
theorem zd318_23 : decode zxm318.2.1 23 = .ok (.ireturn, 1) := by decide +kernel
theorem zt_M_seed {x1 : Int} {g0 : (Int → Int)} {o : Int × (Int → Int)} (h : zf_M_seed x1 g0 = some o) : zv_Fn z_TB z_cl z_KX zy_M_seed zxm318 (1, 60) [.inr 0, .inl x1] [] [g0] (some o.1) [] [o.2] := zv_meth (K := (z_KF13, z_KC13, z_KL13, z_KT13, [], [], [], none)) (FT := z_FT) (MT := z_MT) (n := 2) zxp318 (z_ks13 _ (fun _ h => List.mem_cons_of_mem _ h) _ _ _ _ (fun j r h _ => by cases h)) (fun _ _ => zs_KX_p) zyw_M_seed (fun va F G h => by obtain ⟨rfl, _⟩ := h; rfl) (fun va F G h => by obtain ⟨rfl, _⟩ := h; rfl) rfl fun good va F G hB hret hvret hP => by
  obtain ⟨rfl, rfl, rfl⟩ := hP
  unfold zf_M_seed at h
  refine zv_ild hB zd318_0 rfl rfl ?_
  refine zv_con hB zd318_1 rfl ?_
  refine zv_con (n := 65535) hB zd318_2 (by decide +kernel) ?_
  obtain ⟨r1, hr1, h⟩ := zi_bind h
  refine zv_cs hB (zv_emq (va2 := [.inl x1, .inl 0, .inl 65535]) (F := []) (F' := []) (G := [g0]) (G' := [g0]) (ρ := []) (φ := []) (ψ := []) [] [none] zyw_M_in zyw_M_seed zye_M_seed (by decide +kernel) (zt_M_in hr1) trivial trivial rfl rfl rfl rfl rfl rfl rfl) zd318_5 zxt200 rfl (by decide) (by decide) rfl ?_
  refine zv_zne hB zd318_8 rfl (fun hc2 => ?_) (fun hc2 => ?_)
  · rw [if_neg hc2] at h
    refine zv_ald hB zd318_13 rfl rfl rfl ?_
    refine zv_getr hB zd318_14 rfl ?_
    refine zv_con hB zd318_17 rfl ?_
    refine zv_ild hB zd318_20 rfl rfl ?_
    refine zv_iast hB zd318_21 rfl rfl (by decide) (by decide) ?_
    refine zv_con hB zd318_22 rfl ?_
    have hw := Option.some.inj h
    subst hw
    exact hret _ _ _ _ _ zd318_23 (by constructor <;> decide) ⟨rfl, rfl, rfl⟩
  · rw [if_pos hc2] at h
    refine zv_con hB zd318_11 rfl ?_
    have hw := Option.some.inj h
    subst hw
    exact hret _ _ _ _ _ zd318_12 (by constructor <;> decide) ⟨rfl, rfl, rfl⟩
/-! M_keep ()I -/
-- names: 0 StarTalesModel('arg', 0), 1 (0, 422)(0, 12, 0), 2 (0, 422)(0, 12, 2)
-- fields: f0 = 0.isKept_; arrays: g0 = 1, g1 = 2; out: [('ret', None), ('f', 0), ('g', 1)]
abbrev zy_M_keep : zNL := (3, [(0, 12)], [(0, 12, 63, 0)], [(0, 12, 0, 1), (0, 12, 2, 2)], [(1, 0, 422, 0), (2, 0, 422, 1)])
theorem zyw_M_keep : zv_wf zy_M_keep = true := by decide +kernel
theorem zye_M_keep : zv_ek2 zy_M_keep = true := by decide +kernel
def zf_M_keep (f0 : Int) (g0 : (Int → Int)) (g1 : (Int → Int)) : Option (Int × Int × (Int → Int)) := (zf_M_copies_422_422 g0 g1).bind fun r1 => ((zf_M_bits (g0 126)).bind fun r2 => (some (r2, 1, r1)))
theorem zd319_0 : decode zxm319.2.1 0 = .ok (.aload_n 0, 1) := by decide +kernel
theorem zd319_1 : decode zxm319.2.1 1 = .ok (.iconst 1, 1) := by decide +kernel
theorem zd319_2 : decode zxm319.2.1 2 = .ok (.putfield 479, 3) := by decide +kernel
theorem zd319_5 : decode zxm319.2.1 5 = .ok (.aload_n 0, 1) := by decide +kernel
theorem zd319_6 : decode zxm319.2.1 6 = .ok (.getfield 7, 3) := by decide +kernel
theorem zd319_9 : decode zxm319.2.1 9 = .ok (.aload_n 0, 1) := by decide +kernel
theorem zd319_10 : decode zxm319.2.1 10 = .ok (.getfield 16, 3) := by decide +kernel
theorem zd319_13 : decode zxm319.2.1 13 = .ok (.invokestatic 134, 3) := by decide +kernel
theorem zd319_16 : decode zxm319.2.1 16 = .ok (.aload_n 0, 1) := by decide +kernel
theorem zd319_17 : decode zxm319.2.1 17 = .ok (.getfield 7, 3) := by decide +kernel
theorem zd319_20 : decode zxm319.2.1 20 = .ok (.bipush 126, 2) := by decide +kernel
theorem zd319_22 : decode zxm319.2.1 22 = .ok (.iaload, 1) := by decide +kernel
theorem zd319_23 : decode zxm319.2.1 23 = .ok (.invokestatic 321, 3) := by decide +kernel
theorem zd319_26 : decode zxm319.2.1 26 = .ok (.ireturn, 1) := by decide +kernel
theorem zt_M_keep {f0 : Int} {g0 : (Int → Int)} {g1 : (Int → Int)} {o : Int × Int × (Int → Int)} (h : zf_M_keep f0 g0 g1 = some o) : zv_Fn z_TB z_cl z_KX zy_M_keep zxm319 (1, 60) [.inr 0] [.inl f0] [g0, g1] (some o.1) [.inl o.2.1] [g0, o.2.2] := zv_meth (K := (z_KF13, z_KC13, z_KL13, z_KT13, [], [], [], none)) (FT := z_FT) (MT := z_MT) (n := 1) zxp319 (z_ks13 _ (fun _ h => List.mem_cons_of_mem _ h) _ _ _ _ (fun j r h _ => by cases h)) (fun _ _ => zs_KX_p) zyw_M_keep (fun va F G h => by obtain ⟨rfl, _⟩ := h; rfl) (fun va F G h => by obtain ⟨rfl, _⟩ := h; rfl) rfl fun good va F G hB hret hvret hP => by
  obtain ⟨rfl, rfl, rfl⟩ := hP
  unfold zf_M_keep at h
  refine zv_ald hB zd319_0 rfl rfl rfl ?_
  refine zv_con hB zd319_1 rfl ?_
  refine zv_putf hB zd319_2 rfl rfl (fun _ => by decide) rfl ?_
  refine zv_ald hB zd319_5 rfl rfl rfl ?_
  refine zv_getr hB zd319_6 rfl ?_
  refine zv_ald hB zd319_9 rfl rfl rfl ?_
  refine zv_getr hB zd319_10 rfl ?_
  obtain ⟨r1, hr1, h⟩ := zi_bind h
  refine zv_cs hB (zv_emq (va2 := [.inr 1, .inr 2]) (F := [.inl 1]) (F' := [.inl 1]) (G := [g0, g1]) (G' := [g0, r1]) (ρ := [1, 2]) (φ := []) (ψ := [0, 1]) [none] [some 0, some 1] zyw_M_copies_422_422 zyw_M_keep zye_M_keep (by decide +kernel) (zt_M_copies_422_422 hr1) trivial ⟨rfl, rfl, trivial⟩ rfl rfl rfl rfl rfl rfl rfl) zd319_13 zxt300 rfl (by decide) (by decide) rfl ?_
  refine zv_ald hB zd319_16 rfl rfl rfl ?_
  refine zv_getr hB zd319_17 rfl ?_
  refine zv_con hB zd319_20 rfl ?_
  refine zv_iald hB zd319_22 rfl rfl (by decide) (by decide) (fun _ _ => ?_)
  obtain ⟨r2, hr2, h⟩ := zi_bind h
  refine zv_cs hB (zv_emq (va2 := [.inl (g0 126)]) (F := [.inl 1]) (F' := [.inl 1]) (G := [g0, r1]) (G' := [g0, r1]) (ρ := []) (φ := []) (ψ := []) [none] [none, none] zyw_M_bits zyw_M_keep zye_M_keep (by decide +kernel) (zt_M_bits hr2) trivial trivial rfl rfl rfl rfl rfl rfl rfl) zd319_23 zxt257 rfl (by decide) (by decide) rfl ?_
  have hw := Option.some.inj h
  subst hw
  exact hret _ _ _ _ _ zd319_26 (by trivial) ⟨rfl, rfl, rfl⟩
/-! M_undo ()Z -/
-- names: 0 StarTalesModel('arg', 0), 1 (0, 422)(0, 12, 2), 2 (0, 422)(0, 12, 0)
-- fields: f0 = 0.isKept_; arrays: g0 = 1, g1 = 2; out: [('ret', None), ('g', 1)]
abbrev zy_M_undo : zNL := (3, [(0, 12)], [(0, 12, 63, 0)], [(0, 12, 2, 1), (0, 12, 0, 2)], [(1, 0, 422, 0), (2, 0, 422, 1)])
theorem zyw_M_undo : zv_wf zy_M_undo = true := by decide +kernel
theorem zye_M_undo : zv_ek2 zy_M_undo = true := by decide +kernel
def zf_M_undo (f0 : Int) (g0 : (Int → Int)) (g1 : (Int → Int)) : Option (Int × (Int → Int)) := if f0 = 0 then (some (0, g1)) else ((zf_M_copies_422_422 g0 g1).bind fun r2 => (some (1, r2)))
theorem zd320_0 : decode zxm320.2.1 0 = .ok (.aload_n 0, 1) := by decide +kernel
theorem zd320_1 : decode zxm320.2.1 1 = .ok (.getfield 479, 3) := by decide +kernel
theorem zd320_4 : decode zxm320.2.1 4 = .ok (.ifCond .ne 5, 3) := by decide +kernel
theorem zd320_7 : decode zxm320.2.1 7 = .ok (.iconst 0, 1) := by decide +kernel
theorem zd320_8 : decode zxm320.2.1 8 = .ok (.ireturn, 1) := by decide +kernel
theorem zd320_9 : decode zxm320.2.1 9 = .ok (.aload_n 0, 1) := by decide +kernel
theorem zd320_10 : decode zxm320.2.1 10 = .ok (.getfield 16, 3) := by decide +kernel
theorem zd320_13 : decode zxm320.2.1 13 = .ok (.aload_n 0, 1) := by decide +kernel
theorem zd320_14 : decode zxm320.2.1 14 = .ok (.getfield 7, 3) := by decide +kernel
theorem zd320_17 : decode zxm320.2.1 17 = .ok (.invokestatic 134, 3) := by decide +kernel
theorem zd320_20 : decode zxm320.2.1 20 = .ok (.iconst 1, 1) := by decide +kernel
theorem zd320_21 : decode zxm320.2.1 21 = .ok (.ireturn, 1) := by decide +kernel
theorem zt_M_undo {f0 : Int} {g0 : (Int → Int)} {g1 : (Int → Int)} {o : Int × (Int → Int)} (h : zf_M_undo f0 g0 g1 = some o) : zv_Fn z_TB z_cl z_KX zy_M_undo zxm320 (1, 60) [.inr 0] [.inl f0] [g0, g1] (some o.1) [.inl f0] [g0, o.2] := zv_meth (K := (z_KF13, z_KC13, z_KL13, z_KT13, [], [], [], none)) (FT := z_FT) (MT := z_MT) (n := 1) zxp320 (z_ks13 _ (fun _ h => List.mem_cons_of_mem _ h) _ _ _ _ (fun j r h _ => by cases h)) (fun _ _ => zs_KX_p) zyw_M_undo (fun va F G h => by obtain ⟨rfl, _⟩ := h; rfl) (fun va F G h => by obtain ⟨rfl, _⟩ := h; rfl) rfl fun good va F G hB hret hvret hP => by
  obtain ⟨rfl, rfl, rfl⟩ := hP
  unfold zf_M_undo at h
  refine zv_ald hB zd320_0 rfl rfl rfl ?_
  refine zv_getf hB zd320_1 rfl rfl (fun _ _ => ?_)
  refine zv_zne hB zd320_4 rfl (fun hc1 => ?_) (fun hc1 => ?_)
  · rw [if_neg hc1] at h
    refine zv_ald hB zd320_9 rfl rfl rfl ?_
    refine zv_getr hB zd320_10 rfl ?_
    refine zv_ald hB zd320_13 rfl rfl rfl ?_
    refine zv_getr hB zd320_14 rfl ?_
    obtain ⟨r2, hr2, h⟩ := zi_bind h
    refine zv_cs hB (zv_emq (va2 := [.inr 1, .inr 2]) (F := [.inl f0]) (F' := [.inl f0]) (G := [g0, g1]) (G' := [g0, r2]) (ρ := [1, 2]) (φ := []) (ψ := [0, 1]) [none] [some 0, some 1] zyw_M_copies_422_422 zyw_M_undo zye_M_undo (by decide +kernel) (zt_M_copies_422_422 hr2) trivial ⟨rfl, rfl, trivial⟩ rfl rfl rfl rfl rfl rfl rfl) zd320_17 zxt300 rfl (by decide) (by decide) rfl ?_
    refine zv_con hB zd320_20 rfl ?_
    have hw := Option.some.inj h
    subst hw
    exact hret _ _ _ _ _ zd320_21 (by constructor <;> decide) ⟨rfl, rfl, rfl⟩
  · rw [if_pos hc1] at h
    refine zv_con hB zd320_7 rfl ?_
    have hw := Option.some.inj h
    subst hw
    exact hret _ _ _ _ _ zd320_8 (by constructor <;> decide) ⟨rfl, rfl, rfl⟩
/-! M_tapeNumber (I)I -/
-- names: 0 StarTalesModel('arg', 0), 1 (1, 220)(0, 12, 3)
-- fields: ; arrays: g0 = 1; out: [('ret', None)]
abbrev zy_M_tapeNumber : zNL := (2, [(0, 12)], [], [(0, 12, 3, 1)], [(1, 1, 220, 0)])
theorem zyw_M_tapeNumber : zv_wf zy_M_tapeNumber = true := by decide +kernel
theorem zye_M_tapeNumber : zv_ek2 zy_M_tapeNumber = true := by decide +kernel
def zf_M_tapeNumber_l0_b (x1 : Int) (g0 : (Int → Int)) (rec : Int → Int → Option (Int)) (x2 : Int) (x3 : Int) : Option (Int) := if x3 < (zi_w ((zi_w (4 * x1)) + 4)) then (cond (zi_ix x3 220) (rec (zi_or (zi_shl x2 8) (zi_and (g0 x3) 255)) (zi_w (x3 + 1))) none) else (some x2)
def zf_M_tapeNumber_l0 (x1 : Int) (g0 : (Int → Int)) : Nat → Int → Int → Option (Int)
  | 0, _, _ => none
  | n + 1, x2, x3 => zf_M_tapeNumber_l0_b x1 g0 (zf_M_tapeNumber_l0 x1 g0 n) x2 x3
def zf_M_tapeNumber (x1 : Int) (g0 : (Int → Int)) : Option (Int) := (zf_M_tapeNumber_l0 x1 g0 zi_fu 0 (zi_w (4 * x1))).bind fun q3 => (some q3)
theorem zd322_0 : decode zxm322.2.1 0 = .ok (.iconst 0, 1) := by decide +kernel
theorem zd322_1 : decode zxm322.2.1 1 = .ok (.istore_n 2, 1) := by decide +kernel
theorem zd322_2 : decode zxm322.2.1 2 = .ok (.iconst 4, 1) := by decide +kernel
theorem zd322_3 : decode zxm322.2.1 3 = .ok (.iload_n 1, 1) := by decide +kernel
theorem zd322_4 : decode zxm322.2.1 4 = .ok (.imul, 1) := by decide +kernel
theorem zd322_5 : decode zxm322.2.1 5 = .ok (.istore_n 3, 1) := by decide +kernel
theorem zd322_6 : decode zxm322.2.1 6 = .ok (.iload_n 3, 1) := by decide +kernel
theorem zd322_7 : decode zxm322.2.1 7 = .ok (.iconst 4, 1) := by decide +kernel
theorem zd322_8 : decode zxm322.2.1 8 = .ok (.iload_n 1, 1) := by decide +kernel
theorem zd322_9 : decode zxm322.2.1 9 = .ok (.imul, 1) := by decide +kernel
theorem zd322_10 : decode zxm322.2.1 10 = .ok (.iconst 4, 1) := by decide +kernel
theorem zd322_11 : decode zxm322.2.1 11 = .ok (.iadd, 1) := by decide +kernel
theorem zd322_12 : decode zxm322.2.1 12 = .ok (.if_icmp .ge 25, 3) := by decide +kernel
theorem zd322_15 : decode zxm322.2.1 15 = .ok (.iload_n 2, 1) := by decide +kernel
theorem zd322_16 : decode zxm322.2.1 16 = .ok (.bipush 8, 2) := by decide +kernel
theorem zd322_18 : decode zxm322.2.1 18 = .ok (.ishl, 1) := by decide +kernel
theorem zd322_19 : decode zxm322.2.1 19 = .ok (.aload_n 0, 1) := by decide +kernel
theorem zd322_20 : decode zxm322.2.1 20 = .ok (.getfield 19, 3) := by decide +kernel
theorem zd322_23 : decode zxm322.2.1 23 = .ok (.iload_n 3, 1) := by decide +kernel
theorem zd322_24 : decode zxm322.2.1 24 = .ok (.baload, 1) := by decide +kernel
theorem zd322_25 : decode zxm322.2.1 25 = .ok (.sipush 255, 3) := by decide +kernel
theorem zd322_28 : decode zxm322.2.1 28 = .ok (.iand, 1) := by decide +kernel
theorem zd322_29 : decode zxm322.2.1 29 = .ok (.ior, 1) := by decide +kernel
theorem zd322_30 : decode zxm322.2.1 30 = .ok (.istore_n 2, 1) := by decide +kernel
theorem zd322_31 : decode zxm322.2.1 31 = .ok (.iinc 3 1, 3) := by decide +kernel
theorem zd322_34 : decode zxm322.2.1 34 = .ok (.goto (-28), 3) := by decide +kernel
theorem zd322_37 : decode zxm322.2.1 37 = .ok (.iload_n 2, 1) := by decide +kernel
theorem zd322_38 : decode zxm322.2.1 38 = .ok (.ireturn, 1) := by decide +kernel
theorem zt_M_tapeNumber {x1 : Int} {g0 : (Int → Int)} {o : Int} (h : zf_M_tapeNumber x1 g0 = some o) : zv_Fn z_TB z_cl z_KX zy_M_tapeNumber zxm322 (0, 0) [.inr 0, .inl x1] [] [g0] (some o) [] [g0] := zv_meth (K := (z_KF13, z_KC13, z_KL13, z_KT13, [], [], [], none)) (FT := z_FT) (MT := z_MT) (n := 2) zxp322 (z_ks13 _ (fun _ h => List.mem_cons_of_mem _ h) _ _ _ _ (fun j r h _ => by cases h)) (fun _ _ => zs_KX_p) zyw_M_tapeNumber (fun va F G h => by obtain ⟨rfl, _⟩ := h; rfl) (fun va F G h => by obtain ⟨rfl, _⟩ := h; rfl) rfl fun good va F G hB hret hvret hP => by
  obtain ⟨rfl, rfl, rfl⟩ := hP
  have l0 : ∀ (n : Nat) (x1 : Int) (x2 : Int) (x3 : Int) (q : Int), zf_M_tapeNumber_l0 x1 g0 n x2 x3 = some q → (good 37 [.inr 1000, .inr 1000, .inl q, .inr 1000] [] [] [g0]) → good 6 [.inr 0, .inl x1, .inl x2, .inl x3] [] [] [g0] := by
    intro n
    induction n with
    | zero => intro x1 x2 x3 q h; exact absurd (show none = some q from h) (fun h => by cases h)
    | succ n ih =>
      intro x1 x2 x3 q h hK
      replace h : zf_M_tapeNumber_l0_b x1 g0 (zf_M_tapeNumber_l0 x1 g0 n) x2 x3 = some q := h
      unfold zf_M_tapeNumber_l0_b at h
      refine zv_ild hB zd322_6 rfl rfl ?_
      refine zv_con hB zd322_7 rfl ?_
      refine zv_ild hB zd322_8 rfl rfl ?_
      refine zv_mulw hB zd322_9 ?_
      refine zv_con hB zd322_10 rfl ?_
      refine zv_addw hB zd322_11 ?_
      refine zv_cge hB zd322_12 rfl (fun hc1 => ?_) (fun hc1 => ?_)
      · rw [if_neg (Int.not_lt.mpr hc1)] at h
        have hq := Option.some.inj h
        subst hq
        refine zv_wk hB (L' := [.inr 1000, .inr 1000, .inl x2, .inr 1000]) (F' := []) ⟨fun (h : zv_is (.inr 1000)) => (Nat.lt_irrefl 1000 h).elim, fun (h : zv_is (.inr 1000)) => (Nat.lt_irrefl 1000 h).elim, fun _ => rfl, fun (h : zv_is (.inr 1000)) => (Nat.lt_irrefl 1000 h).elim, trivial⟩ trivial ?_
        exact hK
      · rw [if_pos hc1] at h
        refine zv_ild hB zd322_15 rfl rfl ?_
        refine zv_con hB zd322_16 rfl ?_
        refine zv_shlw hB zd322_18 ?_
        refine zv_ald hB zd322_19 rfl rfl rfl ?_
        refine zv_getr hB zd322_20 rfl ?_
        refine zv_ild hB zd322_23 rfl rfl ?_
        obtain ⟨c2, h⟩ := zi_if h
        refine zv_bald hB zd322_24 rfl rfl (zi_ix_ok c2).1 (zi_ix_ok c2).2 (fun _ _ => ?_)
        refine zv_con hB zd322_25 rfl ?_
        refine zv_andw hB zd322_28 ?_
        refine zv_orw hB zd322_29 ?_
        refine zv_ist hB zd322_30 rfl rfl rfl ?_
        refine zv_iincw hB zd322_31 rfl rfl ?_
        refine zv_goto hB zd322_34 rfl ?_
        exact ih _ _ _ q h hK
  unfold zf_M_tapeNumber at h
  refine zv_con hB zd322_0 rfl ?_
  refine zv_ist hB zd322_1 rfl rfl rfl ?_
  refine zv_con hB zd322_2 rfl ?_
  refine zv_ild hB zd322_3 rfl rfl ?_
  refine zv_mulw hB zd322_4 ?_
  refine zv_ist hB zd322_5 rfl rfl rfl ?_
  obtain ⟨q3, hq3, h⟩ := zi_bind h
  refine l0 _ _ _ _ q3 hq3 ?_
  show good 37 [.inr 1000, .inr 1000, .inl q3, .inr 1000] [] [] [g0]
  refine zv_ild hB zd322_37 rfl rfl ?_
  have hw := Option.some.inj h
  subst hw
  exact hret _ _ _ _ _ zd322_38 (by trivial) ⟨rfl, rfl, rfl⟩
