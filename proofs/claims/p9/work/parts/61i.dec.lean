/-! Methods as functions, and that they do what these do. -/
/-! Pilot_isBroughtByLower (LStarTales$Sky;I)Z -/
-- names: 0 Pilot('arg', 0), 1 Sky('arg', 1), 2 (0, 24)(0, 9, 4)
-- fields: f0 = 1.told_; arrays: g0 = 2; out: [('ret', None)]
abbrev zy_Pilot_isBroughtByLower : zNL := (3, [(0, 9), (1, 1)], [(1, 1, 0, 0)], [(0, 9, 4, 2)], [(2, 0, 24, 0)])
theorem zyw_Pilot_isBroughtByLower : zv_wf zy_Pilot_isBroughtByLower = true := by decide +kernel
theorem zye_Pilot_isBroughtByLower : zv_ek2 zy_Pilot_isBroughtByLower = true := by decide +kernel
def zf_Pilot_isBroughtByLower_l0_b (x2 : Int) (f0 : Int) (g0 : (Int → Int)) (rec : Int → Option (((Unit) ⊕ (Int)))) (x3 : Int) : Option (((Unit) ⊕ (Int))) := if x3 < x2 then ((zf_Sky_hasStar x3 f0).bind fun r2 => (if r2 = 0 then (rec (zi_w (x3 + 1))) else (cond (zi_ix x3 24) (cond (zi_ix x2 24) (if (g0 x3) = (g0 x2) then (some (.inr 1)) else (rec (zi_w (x3 + 1)))) none) none))) else (some (.inl ()))
def zf_Pilot_isBroughtByLower_l0 (x2 : Int) (f0 : Int) (g0 : (Int → Int)) : Nat → Int → Option (((Unit) ⊕ (Int)))
  | 0, _ => none
  | n + 1, x3 => zf_Pilot_isBroughtByLower_l0_b x2 f0 g0 (zf_Pilot_isBroughtByLower_l0 x2 f0 g0 n) x3
def zf_Pilot_isBroughtByLower (x2 : Int) (f0 : Int) (g0 : (Int → Int)) : Option (Int) := (zf_Pilot_isBroughtByLower_l0 x2 f0 g0 zi_fu 0).bind fun q7 => Sum.elim (fun e8 => (some 0)) (fun w9 => some w9) q7
theorem zd173_0 : decode zxm173.2.1 0 = .ok (.iconst 0, 1) := by decide +kernel
theorem zd173_1 : decode zxm173.2.1 1 = .ok (.istore_n 3, 1) := by decide +kernel
theorem zd173_2 : decode zxm173.2.1 2 = .ok (.iload_n 3, 1) := by decide +kernel
theorem zd173_3 : decode zxm173.2.1 3 = .ok (.iload_n 2, 1) := by decide +kernel
theorem zd173_4 : decode zxm173.2.1 4 = .ok (.if_icmp .ge 34, 3) := by decide +kernel
theorem zd173_7 : decode zxm173.2.1 7 = .ok (.aload_n 1, 1) := by decide +kernel
theorem zd173_8 : decode zxm173.2.1 8 = .ok (.iload_n 3, 1) := by decide +kernel
theorem zd173_9 : decode zxm173.2.1 9 = .ok (.invokevirtual 120, 3) := by decide +kernel
theorem zd173_12 : decode zxm173.2.1 12 = .ok (.ifCond .eq 20, 3) := by decide +kernel
theorem zd173_15 : decode zxm173.2.1 15 = .ok (.aload_n 0, 1) := by decide +kernel
theorem zd173_16 : decode zxm173.2.1 16 = .ok (.getfield 24, 3) := by decide +kernel
theorem zd173_19 : decode zxm173.2.1 19 = .ok (.iload_n 3, 1) := by decide +kernel
theorem zd173_20 : decode zxm173.2.1 20 = .ok (.iaload, 1) := by decide +kernel
theorem zd173_21 : decode zxm173.2.1 21 = .ok (.aload_n 0, 1) := by decide +kernel
theorem zd173_22 : decode zxm173.2.1 22 = .ok (.getfield 24, 3) := by decide +kernel
theorem zd173_25 : decode zxm173.2.1 25 = .ok (.iload_n 2, 1) := by decide +kernel
theorem zd173_26 : decode zxm173.2.1 26 = .ok (.iaload, 1) := by decide +kernel
theorem zd173_27 : decode zxm173.2.1 27 = .ok (.if_icmp .ne 5, 3) := by decide +kernel
theorem zd173_30 : decode zxm173.2.1 30 = .ok (.iconst 1, 1) := by decide +kernel
theorem zd173_31 : decode zxm173.2.1 31 = .ok (.ireturn, 1) := by decide +kernel
theorem zd173_32 : decode zxm173.2.1 32 = .ok (.iinc 3 1, 3) := by decide +kernel
theorem zd173_35 : decode zxm173.2.1 35 = .ok (.goto (-33), 3) := by decide +kernel
theorem zd173_38 : decode zxm173.2.1 38 = .ok (.iconst 0, 1) := by decide +kernel
theorem zd173_39 : decode zxm173.2.1 39 = .ok (.ireturn, 1) := by decide +kernel
theorem zt_Pilot_isBroughtByLower {x2 : Int} {f0 : Int} {g0 : (Int → Int)} {o : Int} (h : zf_Pilot_isBroughtByLower x2 f0 g0 = some o) : zv_Fn z_TB z_cl z_KX zy_Pilot_isBroughtByLower zxm173 (1, 60) [.inr 0, .inr 1, .inl x2] [.inl f0] [g0] (some o) [.inl f0] [g0] := zv_meth (K := (z_KF6, z_KC6, z_KL6, z_KT6, [], [], [], none)) (FT := z_FT) (MT := z_MT) (n := 3) zxp173 (z_ks6 _ (fun _ h => List.mem_cons_of_mem _ h) _ _ _ _ (fun j r h _ => by cases h)) (fun _ _ => zs_KX_p) zyw_Pilot_isBroughtByLower (fun va F G h => by obtain ⟨rfl, _⟩ := h; rfl) (fun va F G h => by obtain ⟨rfl, _⟩ := h; rfl) rfl fun good va F G hB hret hvret hP => by
  obtain ⟨rfl, rfl, rfl⟩ := hP
  have l0 : ∀ (n : Nat) (x2 : Int) (x3 : Int) (q : ((Unit) ⊕ (Int))), zf_Pilot_isBroughtByLower_l0 x2 f0 g0 n x3 = some q → (Sum.elim (fun e : Unit => good 38 [.inr 1000, .inr 1000, .inr 1000, .inr 1000] [] [.inl f0] [g0]) (fun w : Int => w = o) q) → good 2 [.inr 0, .inr 1, .inl x2, .inl x3] [] [.inl f0] [g0] := by
    intro n
    induction n with
    | zero => intro x2 x3 q h; exact absurd (show none = some q from h) (fun h => by cases h)
    | succ n ih =>
      intro x2 x3 q h hK
      replace h : zf_Pilot_isBroughtByLower_l0_b x2 f0 g0 (zf_Pilot_isBroughtByLower_l0 x2 f0 g0 n) x3 = some q := h
      unfold zf_Pilot_isBroughtByLower_l0_b at h
      refine zv_ild hB zd173_2 rfl rfl ?_
      refine zv_ild hB zd173_3 rfl rfl ?_
      refine zv_cge hB zd173_4 rfl (fun hc1 => ?_) (fun hc1 => ?_)
      · rw [if_neg (Int.not_lt.mpr hc1)] at h
        have hq := Option.some.inj h
        subst hq
        refine zv_wk hB (L' := [.inr 1000, .inr 1000, .inr 1000, .inr 1000]) (F' := [.inl f0]) ⟨fun (h : zv_is (.inr 1000)) => (Nat.lt_irrefl 1000 h).elim, fun (h : zv_is (.inr 1000)) => (Nat.lt_irrefl 1000 h).elim, fun (h : zv_is (.inr 1000)) => (Nat.lt_irrefl 1000 h).elim, fun (h : zv_is (.inr 1000)) => (Nat.lt_irrefl 1000 h).elim, trivial⟩ ⟨fun _ => rfl, trivial⟩ ?_
        exact hK
      · rw [if_pos hc1] at h
        refine zv_ald hB zd173_7 rfl rfl rfl ?_
        refine zv_ild hB zd173_8 rfl rfl ?_
        obtain ⟨r2, hr2, h⟩ := zi_bind h
        refine zv_cv hB (zv_emq (va2 := [.inr 1, .inl x3]) (F := [.inl f0]) (F' := [.inl f0]) (G := [g0]) (G' := [g0]) (ρ := [1]) (φ := [0]) (ψ := []) [some 0] [none] zyw_Sky_hasStar zyw_Pilot_isBroughtByLower zye_Pilot_isBroughtByLower (by decide +kernel) (zt_Sky_hasStar hr2) ⟨⟨_, rfl, fun _ => rfl⟩, trivial⟩ trivial rfl rfl rfl rfl rfl rfl rfl) zd173_9 zxt18 rfl (by decide) (by decide) rfl ?_
        refine zv_zeq hB zd173_12 rfl (fun hc3 => ?_) (fun hc3 => ?_)
        · rw [if_pos hc3] at h
          refine zv_iincw hB zd173_32 rfl rfl ?_
          refine zv_goto hB zd173_35 rfl ?_
          exact ih _ _ q h hK
        · rw [if_neg hc3] at h
          refine zv_ald hB zd173_15 rfl rfl rfl ?_
          refine zv_getr hB zd173_16 rfl ?_
          refine zv_ild hB zd173_19 rfl rfl ?_
          obtain ⟨c4, h⟩ := zi_if h
          refine zv_iald hB zd173_20 rfl rfl (zi_ix_ok c4).1 (zi_ix_ok c4).2 (fun _ _ => ?_)
          refine zv_ald hB zd173_21 rfl rfl rfl ?_
          refine zv_getr hB zd173_22 rfl ?_
          refine zv_ild hB zd173_25 rfl rfl ?_
          obtain ⟨c5, h⟩ := zi_if h
          refine zv_iald hB zd173_26 rfl rfl (zi_ix_ok c5).1 (zi_ix_ok c5).2 (fun _ _ => ?_)
          refine zv_cne hB zd173_27 rfl (fun hc6 => ?_) (fun hc6 => ?_)
          · rw [if_neg hc6] at h
            refine zv_iincw hB zd173_32 rfl rfl ?_
            refine zv_goto hB zd173_35 rfl ?_
            exact ih _ _ q h hK
          · rw [if_pos hc6] at h
            refine zv_con hB zd173_30 rfl ?_
            have hw : 1 = o := zi_rk (Option.some.inj h) hK
            subst hw
            exact hret _ _ _ _ _ zd173_31 (by constructor <;> decide) ⟨rfl, rfl, rfl⟩
  unfold zf_Pilot_isBroughtByLower at h
  refine zv_con hB zd173_0 rfl ?_
  refine zv_ist hB zd173_1 rfl rfl rfl ?_
  obtain ⟨q7, hq7, h⟩ := zi_bind h
  refine l0 _ _ _ q7 hq7 ?_
  rcases q7 with e8 | w9
  · replace h := zi_sl h
    show good 38 [.inr 1000, .inr 1000, .inr 1000, .inr 1000] [] [.inl f0] [g0]
    refine zv_con hB zd173_38 rfl ?_
    have hw := Option.some.inj h
    subst hw
    exact hret _ _ _ _ _ zd173_39 (by constructor <;> decide) ⟨rfl, rfl, rfl⟩
  · exact Option.some.inj h
/-! Pilot_endFirstLegs (LStarTales$Sky;I)V -/
-- names: 0 Pilot('arg', 0), 1 Sky('arg', 1), 2 (0, 24)(0, 9, 4), 3 (0, 264)(0, 9, 5), 4 (0, 264)(0, 9, 6), 5 (0, 264)(0, 9, 7)
-- fields: f0 = 1.told_, f1 = 0.legs_; arrays: g0 = 2, g1 = 3, g2 = 4, g3 = 5; out: [('f', 1), ('g', 1), ('g', 2), ('g', 3)]
abbrev zy_Pilot_endFirstLegs : zNL := (6, [(0, 9), (1, 1)], [(1, 1, 0, 0), (0, 9, 9, 1)], [(0, 9, 4, 2), (0, 9, 5, 3), (0, 9, 6, 4), (0, 9, 7, 5)], [(2, 0, 24, 0), (3, 0, 264, 1), (4, 0, 264, 2), (5, 0, 264, 3)])
theorem zyw_Pilot_endFirstLegs : zv_wf zy_Pilot_endFirstLegs = true := by decide +kernel
theorem zye_Pilot_endFirstLegs : zv_ek2 zy_Pilot_endFirstLegs = true := by decide +kernel
def zf_Pilot_endFirstLegs_l0_b (x2 : Int) (f0 : Int) (g0 : (Int → Int)) (rec : Int → Int → (Int → Int) → (Int → Int) → (Int → Int) → Option (Int × (Int → Int) × (Int → Int) × (Int → Int))) (x3 : Int) (f1 : Int) (g1 : (Int → Int)) (g2 : (Int → Int)) (g3 : (Int → Int)) : Option (Int × (Int → Int) × (Int → Int) × (Int → Int)) := if x3 < 24 then ((zf_Sky_hasStar x3 f0).bind fun r2 => (if r2 = 0 then (rec (zi_w (x3 + 1)) f1 g1 g2 g3) else ((zf_Pilot_isBroughtByLower x3 f0 g0).bind fun r4 => (if r4 = 0 then (if f1 < 264 then (cond (zi_ix f1 264) (cond (zi_ix x3 24) (rec (zi_w (x3 + 1)) (zi_w (f1 + 1)) (zv_up g1 f1 x3) (zv_up g2 f1 x2) (zv_up g3 f1 (g0 x3))) none) none) else (rec (zi_w (x3 + 1)) f1 g1 g2 g3)) else (rec (zi_w (x3 + 1)) f1 g1 g2 g3))))) else (some (f1, g1, g2, g3))
def zf_Pilot_endFirstLegs_l0 (x2 : Int) (f0 : Int) (g0 : (Int → Int)) : Nat → Int → Int → (Int → Int) → (Int → Int) → (Int → Int) → Option (Int × (Int → Int) × (Int → Int) × (Int → Int))
  | 0, _, _, _, _, _ => none
  | n + 1, x3, f1, g1, g2, g3 => zf_Pilot_endFirstLegs_l0_b x2 f0 g0 (zf_Pilot_endFirstLegs_l0 x2 f0 g0 n) x3 f1 g1 g2 g3
def zf_Pilot_endFirstLegs (x2 : Int) (f0 : Int) (f1 : Int) (g0 : (Int → Int)) (g1 : (Int → Int)) (g2 : (Int → Int)) (g3 : (Int → Int)) : Option (Int × (Int → Int) × (Int → Int) × (Int → Int)) := (zf_Pilot_endFirstLegs_l0 x2 f0 g0 zi_fu 0 f1 g1 g2 g3).bind fun q9 => (some (q9.1, q9.2.1, q9.2.2.1, q9.2.2.2))
theorem zd172_0 : decode zxm172.2.1 0 = .ok (.iconst 0, 1) := by decide +kernel
theorem zd172_1 : decode zxm172.2.1 1 = .ok (.istore_n 3, 1) := by decide +kernel
theorem zd172_2 : decode zxm172.2.1 2 = .ok (.iload_n 3, 1) := by decide +kernel
theorem zd172_3 : decode zxm172.2.1 3 = .ok (.bipush 24, 2) := by decide +kernel
theorem zd172_5 : decode zxm172.2.1 5 = .ok (.if_icmp .ge 81, 3) := by decide +kernel
theorem zd172_8 : decode zxm172.2.1 8 = .ok (.aload_n 1, 1) := by decide +kernel
theorem zd172_9 : decode zxm172.2.1 9 = .ok (.iload_n 3, 1) := by decide +kernel
theorem zd172_10 : decode zxm172.2.1 10 = .ok (.invokevirtual 120, 3) := by decide +kernel
theorem zd172_13 : decode zxm172.2.1 13 = .ok (.ifCond .eq 67, 3) := by decide +kernel
theorem zd172_16 : decode zxm172.2.1 16 = .ok (.aload_n 0, 1) := by decide +kernel
theorem zd172_17 : decode zxm172.2.1 17 = .ok (.aload_n 1, 1) := by decide +kernel
theorem zd172_18 : decode zxm172.2.1 18 = .ok (.iload_n 3, 1) := by decide +kernel
theorem zd172_19 : decode zxm172.2.1 19 = .ok (.invokevirtual 154, 3) := by decide +kernel
theorem zd172_22 : decode zxm172.2.1 22 = .ok (.ifCond .ne 58, 3) := by decide +kernel
theorem zd172_25 : decode zxm172.2.1 25 = .ok (.aload_n 0, 1) := by decide +kernel
theorem zd172_26 : decode zxm172.2.1 26 = .ok (.getfield 40, 3) := by decide +kernel
theorem zd172_29 : decode zxm172.2.1 29 = .ok (.sipush 264, 3) := by decide +kernel
theorem zd172_32 : decode zxm172.2.1 32 = .ok (.if_icmp .ge 48, 3) := by decide +kernel
theorem zd172_35 : decode zxm172.2.1 35 = .ok (.aload_n 0, 1) := by decide +kernel
theorem zd172_36 : decode zxm172.2.1 36 = .ok (.getfield 28, 3) := by decide +kernel
theorem zd172_39 : decode zxm172.2.1 39 = .ok (.aload_n 0, 1) := by decide +kernel
theorem zd172_40 : decode zxm172.2.1 40 = .ok (.getfield 40, 3) := by decide +kernel
theorem zd172_43 : decode zxm172.2.1 43 = .ok (.iload_n 3, 1) := by decide +kernel
theorem zd172_44 : decode zxm172.2.1 44 = .ok (.iastore, 1) := by decide +kernel
theorem zd172_45 : decode zxm172.2.1 45 = .ok (.aload_n 0, 1) := by decide +kernel
theorem zd172_46 : decode zxm172.2.1 46 = .ok (.getfield 31, 3) := by decide +kernel
theorem zd172_49 : decode zxm172.2.1 49 = .ok (.aload_n 0, 1) := by decide +kernel
theorem zd172_50 : decode zxm172.2.1 50 = .ok (.getfield 40, 3) := by decide +kernel
theorem zd172_53 : decode zxm172.2.1 53 = .ok (.iload_n 2, 1) := by decide +kernel
theorem zd172_54 : decode zxm172.2.1 54 = .ok (.iastore, 1) := by decide +kernel
theorem zd172_55 : decode zxm172.2.1 55 = .ok (.aload_n 0, 1) := by decide +kernel
theorem zd172_56 : decode zxm172.2.1 56 = .ok (.getfield 34, 3) := by decide +kernel
theorem zd172_59 : decode zxm172.2.1 59 = .ok (.aload_n 0, 1) := by decide +kernel
theorem zd172_60 : decode zxm172.2.1 60 = .ok (.getfield 40, 3) := by decide +kernel
theorem zd172_63 : decode zxm172.2.1 63 = .ok (.aload_n 0, 1) := by decide +kernel
theorem zd172_64 : decode zxm172.2.1 64 = .ok (.getfield 24, 3) := by decide +kernel
theorem zd172_67 : decode zxm172.2.1 67 = .ok (.iload_n 3, 1) := by decide +kernel
theorem zd172_68 : decode zxm172.2.1 68 = .ok (.iaload, 1) := by decide +kernel
theorem zd172_69 : decode zxm172.2.1 69 = .ok (.iastore, 1) := by decide +kernel
theorem zd172_70 : decode zxm172.2.1 70 = .ok (.aload_n 0, 1) := by decide +kernel
theorem zd172_71 : decode zxm172.2.1 71 = .ok (.dup, 1) := by decide +kernel
theorem zd172_72 : decode zxm172.2.1 72 = .ok (.getfield 40, 3) := by decide +kernel
theorem zd172_75 : decode zxm172.2.1 75 = .ok (.iconst 1, 1) := by decide +kernel
theorem zd172_76 : decode zxm172.2.1 76 = .ok (.iadd, 1) := by decide +kernel
theorem zd172_77 : decode zxm172.2.1 77 = .ok (.putfield 40, 3) := by decide +kernel
theorem zd172_80 : decode zxm172.2.1 80 = .ok (.iinc 3 1, 3) := by decide +kernel
theorem zd172_83 : decode zxm172.2.1 83 = .ok (.goto (-81), 3) := by decide +kernel
theorem zd172_86 : decode zxm172.2.1 86 = .ok (.return_, 1) := by decide +kernel
theorem zt_Pilot_endFirstLegs {x2 : Int} {f0 : Int} {f1 : Int} {g0 : (Int → Int)} {g1 : (Int → Int)} {g2 : (Int → Int)} {g3 : (Int → Int)} {o : Int × (Int → Int) × (Int → Int) × (Int → Int)} (h : zf_Pilot_endFirstLegs x2 f0 f1 g0 g1 g2 g3 = some o) : zv_Fn z_TB z_cl z_KX zy_Pilot_endFirstLegs zxm172 (2, 120) [.inr 0, .inr 1, .inl x2] [.inl f0, .inl f1] [g0, g1, g2, g3] none [.inl f0, .inl o.1] [g0, o.2.1, o.2.2.1, o.2.2.2] := zv_meth (K := (z_KF6, z_KC6, z_KL6, z_KT6, [], [], [], none)) (FT := z_FT) (MT := z_MT) (n := 3) zxp172 (z_ks6 _ (fun _ h => List.mem_cons_of_mem _ h) _ _ _ _ (fun j r h _ => by cases h)) (fun _ _ => zs_KX_p) zyw_Pilot_endFirstLegs (fun va F G h => by obtain ⟨rfl, _⟩ := h; rfl) (fun va F G h => by obtain ⟨rfl, _⟩ := h; rfl) rfl fun good va F G hB hret hvret hP => by
  obtain ⟨rfl, rfl, rfl⟩ := hP
  have l0 : ∀ (n : Nat) (x2 : Int) (x3 : Int) (f1 : Int) (g1 : (Int → Int)) (g2 : (Int → Int)) (g3 : (Int → Int)) (q : Int × (Int → Int) × (Int → Int) × (Int → Int)), zf_Pilot_endFirstLegs_l0 x2 f0 g0 n x3 f1 g1 g2 g3 = some q → (good 86 [.inr 1000, .inr 1000, .inr 1000, .inr 1000] [] [.inl f0, .inl q.1] [g0, q.2.1, q.2.2.1, q.2.2.2]) → good 2 [.inr 0, .inr 1, .inl x2, .inl x3] [] [.inl f0, .inl f1] [g0, g1, g2, g3] := by
    intro n
    induction n with
    | zero => intro x2 x3 f1 g1 g2 g3 q h; exact absurd (show none = some q from h) (fun h => by cases h)
    | succ n ih =>
      intro x2 x3 f1 g1 g2 g3 q h hK
      replace h : zf_Pilot_endFirstLegs_l0_b x2 f0 g0 (zf_Pilot_endFirstLegs_l0 x2 f0 g0 n) x3 f1 g1 g2 g3 = some q := h
      unfold zf_Pilot_endFirstLegs_l0_b at h
      refine zv_ild hB zd172_2 rfl rfl ?_
      refine zv_con hB zd172_3 rfl ?_
      refine zv_cge hB zd172_5 rfl (fun hc1 => ?_) (fun hc1 => ?_)
      · rw [if_neg (Int.not_lt.mpr hc1)] at h
        have hq := Option.some.inj h
        subst hq
        refine zv_wk hB (L' := [.inr 1000, .inr 1000, .inr 1000, .inr 1000]) (F' := [.inl f0, .inl f1]) ⟨fun (h : zv_is (.inr 1000)) => (Nat.lt_irrefl 1000 h).elim, fun (h : zv_is (.inr 1000)) => (Nat.lt_irrefl 1000 h).elim, fun (h : zv_is (.inr 1000)) => (Nat.lt_irrefl 1000 h).elim, fun (h : zv_is (.inr 1000)) => (Nat.lt_irrefl 1000 h).elim, trivial⟩ ⟨fun _ => rfl, fun _ => rfl, trivial⟩ ?_
        exact hK
      · rw [if_pos hc1] at h
        refine zv_ald hB zd172_8 rfl rfl rfl ?_
        refine zv_ild hB zd172_9 rfl rfl ?_
        obtain ⟨r2, hr2, h⟩ := zi_bind h
        refine zv_cv hB (zv_emq (va2 := [.inr 1, .inl x3]) (F := [.inl f0, .inl f1]) (F' := [.inl f0, .inl f1]) (G := [g0, g1, g2, g3]) (G' := [g0, g1, g2, g3]) (ρ := [1]) (φ := [0]) (ψ := []) [some 0, none] [none, none, none, none] zyw_Sky_hasStar zyw_Pilot_endFirstLegs zye_Pilot_endFirstLegs (by decide +kernel) (zt_Sky_hasStar hr2) ⟨⟨_, rfl, fun _ => rfl⟩, trivial⟩ trivial rfl rfl rfl rfl rfl rfl rfl) zd172_10 zxt18 rfl (by decide) (by decide) rfl ?_
        refine zv_zeq hB zd172_13 rfl (fun hc3 => ?_) (fun hc3 => ?_)
        · rw [if_pos hc3] at h
          refine zv_iincw hB zd172_80 rfl rfl ?_
          refine zv_goto hB zd172_83 rfl ?_
          exact ih _ _ _ _ _ _ q h hK
        · rw [if_neg hc3] at h
          refine zv_ald hB zd172_16 rfl rfl rfl ?_
          refine zv_ald hB zd172_17 rfl rfl rfl ?_
          refine zv_ild hB zd172_18 rfl rfl ?_
          obtain ⟨r4, hr4, h⟩ := zi_bind h
          refine zv_cv hB (zv_emq (va2 := [.inr 0, .inr 1, .inl x3]) (F := [.inl f0, .inl f1]) (F' := [.inl f0, .inl f1]) (G := [g0, g1, g2, g3]) (G' := [g0, g1, g2, g3]) (ρ := [0, 1, 2]) (φ := [0]) (ψ := [0]) [some 0, none] [some 0, none, none, none] zyw_Pilot_isBroughtByLower zyw_Pilot_endFirstLegs zye_Pilot_endFirstLegs (by decide +kernel) (zt_Pilot_isBroughtByLower hr4) ⟨⟨_, rfl, fun _ => rfl⟩, trivial⟩ ⟨rfl, trivial⟩ rfl rfl rfl rfl rfl rfl rfl) zd172_19 zxt173 rfl (by decide) (by decide) rfl ?_
          refine zv_zne hB zd172_22 rfl (fun hc5 => ?_) (fun hc5 => ?_)
          · rw [if_neg hc5] at h
            refine zv_iincw hB zd172_80 rfl rfl ?_
            refine zv_goto hB zd172_83 rfl ?_
            exact ih _ _ _ _ _ _ q h hK
          · rw [if_pos hc5] at h
            refine zv_ald hB zd172_25 rfl rfl rfl ?_
            refine zv_getf hB zd172_26 rfl rfl (fun _ _ => ?_)
            refine zv_con hB zd172_29 rfl ?_
            refine zv_cge hB zd172_32 rfl (fun hc6 => ?_) (fun hc6 => ?_)
            · rw [if_neg (Int.not_lt.mpr hc6)] at h
              refine zv_iincw hB zd172_80 rfl rfl ?_
              refine zv_goto hB zd172_83 rfl ?_
              exact ih _ _ _ _ _ _ q h hK
            · rw [if_pos hc6] at h
              refine zv_ald hB zd172_35 rfl rfl rfl ?_
              refine zv_getr hB zd172_36 rfl ?_
              refine zv_ald hB zd172_39 rfl rfl rfl ?_
              refine zv_getf hB zd172_40 rfl rfl (fun _ _ => ?_)
              refine zv_ild hB zd172_43 rfl rfl ?_
              obtain ⟨c7, h⟩ := zi_if h
              refine zv_iast hB zd172_44 rfl rfl (zi_ix_ok c7).1 (zi_ix_ok c7).2 ?_
              refine zv_ald hB zd172_45 rfl rfl rfl ?_
              refine zv_getr hB zd172_46 rfl ?_
              refine zv_ald hB zd172_49 rfl rfl rfl ?_
              refine zv_getf hB zd172_50 rfl rfl (fun _ _ => ?_)
              refine zv_ild hB zd172_53 rfl rfl ?_
              refine zv_iast hB zd172_54 rfl rfl (zi_ix_ok c7).1 (zi_ix_ok c7).2 ?_
              refine zv_ald hB zd172_55 rfl rfl rfl ?_
              refine zv_getr hB zd172_56 rfl ?_
              refine zv_ald hB zd172_59 rfl rfl rfl ?_
              refine zv_getf hB zd172_60 rfl rfl (fun _ _ => ?_)
              refine zv_ald hB zd172_63 rfl rfl rfl ?_
              refine zv_getr hB zd172_64 rfl ?_
              refine zv_ild hB zd172_67 rfl rfl ?_
              obtain ⟨c8, h⟩ := zi_if h
              refine zv_iald hB zd172_68 rfl rfl (zi_ix_ok c8).1 (zi_ix_ok c8).2 (fun _ _ => ?_)
              refine zv_iast hB zd172_69 rfl rfl (zi_ix_ok c7).1 (zi_ix_ok c7).2 ?_
              refine zv_ald hB zd172_70 rfl rfl rfl ?_
              refine zv_dup hB zd172_71 rfl ?_
              refine zv_getf hB zd172_72 rfl rfl (fun _ _ => ?_)
              refine zv_con hB zd172_75 rfl ?_
              refine zv_addw hB zd172_76 ?_
              refine zv_putf hB zd172_77 rfl rfl (fun h => by cases h) rfl ?_
              refine zv_iincw hB zd172_80 rfl rfl ?_
              refine zv_goto hB zd172_83 rfl ?_
              exact ih _ _ _ _ _ _ q h hK
  unfold zf_Pilot_endFirstLegs at h
  refine zv_con hB zd172_0 rfl ?_
  refine zv_ist hB zd172_1 rfl rfl rfl ?_
  obtain ⟨q9, hq9, h⟩ := zi_bind h
  refine l0 _ _ _ _ _ _ _ q9 hq9 ?_
  show good 86 [.inr 1000, .inr 1000, .inr 1000, .inr 1000] [] [.inl f0, .inl q9.1] [g0, q9.2.1, q9.2.2.1, q9.2.2.2]
  have hw := Option.some.inj h
  subst hw
  exact hvret _ _ _ _ zd172_86 trivial ⟨rfl, rfl, rfl⟩
