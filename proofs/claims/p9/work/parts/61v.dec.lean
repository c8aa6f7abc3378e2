/-! Methods as functions, and that they do what these do. -/
/-! M_closesSums (Z)V -/
-- names: 0 StarTalesModel('arg', 0), 1 (0, 220)(0, 12, 15), 2 (0, 220)(0, 12, 14)
-- fields: f0 = 0.waiting_, f1 = 0.codeMany_; arrays: g0 = 1, g1 = 2; out: [('f', 0), ('f', 1), ('g', 1)]
abbrev zy_M_closesSums : zNL := (3, [(0, 12)], [(0, 12, 10, 0), (0, 12, 9, 1)], [(0, 12, 15, 1), (0, 12, 14, 2)], [(1, 0, 220, 0), (2, 0, 220, 1)])
theorem zyw_M_closesSums : zv_wf zy_M_closesSums = true := by decide +kernel
theorem zye_M_closesSums : zv_ek2 zy_M_closesSums = true := by decide +kernel
def zf_M_closesSums_l0_b (x1 : Int) (g0 : (Int → Int)) (rec : Int → Int → (Int → Int) → Option (Int × Int × (Int → Int))) (f0 : Int) (f1 : Int) (g1 : (Int → Int)) : Option (Int × Int × (Int → Int)) := (zf_M_waitTop f0 g0).bind fun r1 => (if r1 < 4 then (if x1 = 0 then (some (f0, f1, g1)) else ((zf_M_waitTop f0 g0).bind fun r4 => (if r4 = 2 then ((zf_M_waitTop f0 g0).bind fun r6 => ((zf_M_notes r6 0 f1 g1).bind fun r7 => (rec (zi_w (f0 - 1)) r7.1 r7.2))) else ((zf_M_waitTop f0 g0).bind fun r8 => (if r8 = 3 then ((zf_M_waitTop f0 g0).bind fun r10 => ((zf_M_notes r10 0 f1 g1).bind fun r11 => (rec (zi_w (f0 - 1)) r11.1 r11.2))) else (some (f0, f1, g1))))))) else ((zf_M_waitTop f0 g0).bind fun r12 => (if 6 < r12 then (if x1 = 0 then (some (f0, f1, g1)) else ((zf_M_waitTop f0 g0).bind fun r17 => (if r17 = 2 then ((zf_M_waitTop f0 g0).bind fun r19 => ((zf_M_notes r19 0 f1 g1).bind fun r20 => (rec (zi_w (f0 - 1)) r20.1 r20.2))) else ((zf_M_waitTop f0 g0).bind fun r21 => (if r21 = 3 then ((zf_M_waitTop f0 g0).bind fun r23 => ((zf_M_notes r23 0 f1 g1).bind fun r24 => (rec (zi_w (f0 - 1)) r24.1 r24.2))) else (some (f0, f1, g1))))))) else ((zf_M_waitTop f0 g0).bind fun r14 => ((zf_M_notes r14 0 f1 g1).bind fun r15 => (rec (zi_w (f0 - 1)) r15.1 r15.2))))))
def zf_M_closesSums_l0 (x1 : Int) (g0 : (Int → Int)) : Nat → Int → Int → (Int → Int) → Option (Int × Int × (Int → Int))
  | 0, _, _, _ => none
  | n + 1, f0, f1, g1 => zf_M_closesSums_l0_b x1 g0 (zf_M_closesSums_l0 x1 g0 n) f0 f1 g1
def zf_M_closesSums (x1 : Int) (f0 : Int) (f1 : Int) (g0 : (Int → Int)) (g1 : (Int → Int)) : Option (Int × Int × (Int → Int)) := (zf_M_closesSums_l0 x1 g0 zi_fu f0 f1 g1).bind fun q25 => (some (q25.1, q25.2.1, q25.2.2))
theorem zd228_0 : decode zxm228.2.1 0 = .ok (.aload_n 0, 1) := by decide +kernel
theorem zd228_1 : decode zxm228.2.1 1 = .ok (.invokevirtual 209, 3) := by decide +kernel
theorem zd228_4 : decode zxm228.2.1 4 = .ok (.iconst 4, 1) := by decide +kernel
theorem zd228_5 : decode zxm228.2.1 5 = .ok (.if_icmp .lt 12, 3) := by decide +kernel
theorem zd228_8 : decode zxm228.2.1 8 = .ok (.aload_n 0, 1) := by decide +kernel
theorem zd228_9 : decode zxm228.2.1 9 = .ok (.invokevirtual 209, 3) := by decide +kernel
theorem zd228_12 : decode zxm228.2.1 12 = .ok (.bipush 6, 2) := by decide +kernel
theorem zd228_14 : decode zxm228.2.1 14 = .ok (.if_icmp .le 23, 3) := by decide +kernel
theorem zd228_17 : decode zxm228.2.1 17 = .ok (.iload_n 1, 1) := by decide +kernel
theorem zd228_18 : decode zxm228.2.1 18 = .ok (.ifCond .eq 41, 3) := by decide +kernel
theorem zd228_21 : decode zxm228.2.1 21 = .ok (.aload_n 0, 1) := by decide +kernel
theorem zd228_22 : decode zxm228.2.1 22 = .ok (.invokevirtual 209, 3) := by decide +kernel
theorem zd228_25 : decode zxm228.2.1 25 = .ok (.iconst 2, 1) := by decide +kernel
theorem zd228_26 : decode zxm228.2.1 26 = .ok (.if_icmp .eq 11, 3) := by decide +kernel
theorem zd228_29 : decode zxm228.2.1 29 = .ok (.aload_n 0, 1) := by decide +kernel
theorem zd228_30 : decode zxm228.2.1 30 = .ok (.invokevirtual 209, 3) := by decide +kernel
theorem zd228_33 : decode zxm228.2.1 33 = .ok (.iconst 3, 1) := by decide +kernel
theorem zd228_34 : decode zxm228.2.1 34 = .ok (.if_icmp .ne 25, 3) := by decide +kernel
theorem zd228_37 : decode zxm228.2.1 37 = .ok (.aload_n 0, 1) := by decide +kernel
theorem zd228_38 : decode zxm228.2.1 38 = .ok (.aload_n 0, 1) := by decide +kernel
theorem zd228_39 : decode zxm228.2.1 39 = .ok (.invokevirtual 209, 3) := by decide +kernel
theorem zd228_42 : decode zxm228.2.1 42 = .ok (.iconst 0, 1) := by decide +kernel
theorem zd228_43 : decode zxm228.2.1 43 = .ok (.invokevirtual 212, 3) := by decide +kernel
theorem zd228_46 : decode zxm228.2.1 46 = .ok (.aload_n 0, 1) := by decide +kernel
theorem zd228_47 : decode zxm228.2.1 47 = .ok (.aload_n 0, 1) := by decide +kernel
theorem zd228_48 : decode zxm228.2.1 48 = .ok (.getfield 206, 3) := by decide +kernel
theorem zd228_51 : decode zxm228.2.1 51 = .ok (.iconst 1, 1) := by decide +kernel
theorem zd228_52 : decode zxm228.2.1 52 = .ok (.isub, 1) := by decide +kernel
theorem zd228_53 : decode zxm228.2.1 53 = .ok (.putfield 206, 3) := by decide +kernel
theorem zd228_56 : decode zxm228.2.1 56 = .ok (.goto (-56), 3) := by decide +kernel
theorem zd228_59 : decode zxm228.2.1 59 = .ok (.return_, 1) := by decide +kernel
theorem zt_M_closesSums {x1 : Int} {f0 : Int} {f1 : Int} {g0 : (Int → Int)} {g1 : (Int → Int)} {o : Int × Int × (Int → Int)} (h : zf_M_closesSums x1 f0 f1 g0 g1 = some o) : zv_Fn z_TB z_cl z_KX zy_M_closesSums zxm228 (1, 60) [.inr 0, .inl x1] [.inl f0, .inl f1] [g0, g1] none [.inl o.1, .inl o.2.1] [g0, o.2.2] := zv_meth (K := (z_KF13, z_KC13, z_KL13, z_KT13, [], [], [], none)) (FT := z_FT) (MT := z_MT) (n := 2) zxp228 (z_ks13 _ (fun _ h => List.mem_cons_of_mem _ h) _ _ _ _ (fun j r h _ => by cases h)) (fun _ _ => zs_KX_p) zyw_M_closesSums (fun va F G h => by obtain ⟨rfl, _⟩ := h; rfl) (fun va F G h => by obtain ⟨rfl, _⟩ := h; rfl) rfl fun good va F G hB hret hvret hP => by
  obtain ⟨rfl, rfl, rfl⟩ := hP
  have l0 : ∀ (n : Nat) (x1 : Int) (f0 : Int) (f1 : Int) (g1 : (Int → Int)) (q : Int × Int × (Int → Int)), zf_M_closesSums_l0 x1 g0 n f0 f1 g1 = some q → (good 59 [.inr 1000, .inr 1000] [] [.inl q.1, .inl q.2.1] [g0, q.2.2]) → good 0 [.inr 0, .inl x1] [] [.inl f0, .inl f1] [g0, g1] := by
    intro n
    induction n with
    | zero => intro x1 f0 f1 g1 q h; exact absurd (show none = some q from h) (fun h => by cases h)
    | succ n ih =>
      intro x1 f0 f1 g1 q h hK
      replace h : zf_M_closesSums_l0_b x1 g0 (zf_M_closesSums_l0 x1 g0 n) f0 f1 g1 = some q := h
      unfold zf_M_closesSums_l0_b at h
      refine zv_ald hB zd228_0 rfl rfl rfl ?_
      obtain ⟨r1, hr1, h⟩ := zi_bind h
      refine zv_cv hB (zv_emq (va2 := [.inr 0]) (F := [.inl f0, .inl f1]) (F' := [.inl f0, .inl f1]) (G := [g0, g1]) (G' := [g0, g1]) (ρ := [0, 1]) (φ := [0]) (ψ := [0]) [some 0, none] [some 0, none] zyw_M_waitTop zyw_M_closesSums zye_M_closesSums (by decide +kernel) (zt_M_waitTop hr1) ⟨⟨_, rfl, fun _ => rfl⟩, trivial⟩ ⟨rfl, trivial⟩ rfl rfl rfl rfl rfl rfl rfl) zd228_1 zxt229 rfl (by decide) (by decide) rfl ?_
      refine zv_con hB zd228_4 rfl ?_
      refine zv_clt hB zd228_5 rfl (fun hc2 => ?_) (fun hc2 => ?_)
      · rw [if_pos hc2] at h
        refine zv_ild hB zd228_17 rfl rfl ?_
        refine zv_zeq hB zd228_18 rfl (fun hc3 => ?_) (fun hc3 => ?_)
        · rw [if_pos hc3] at h
          have hq := Option.some.inj h
          subst hq
          refine zv_wk hB (L' := [.inr 1000, .inr 1000]) (F' := [.inl f0, .inl f1]) ⟨fun (h : zv_is (.inr 1000)) => (Nat.lt_irrefl 1000 h).elim, fun (h : zv_is (.inr 1000)) => (Nat.lt_irrefl 1000 h).elim, trivial⟩ ⟨fun _ => rfl, fun _ => rfl, trivial⟩ ?_
          exact hK
        · rw [if_neg hc3] at h
          refine zv_ald hB zd228_21 rfl rfl rfl ?_
          obtain ⟨r4, hr4, h⟩ := zi_bind h
          refine zv_cv hB (zv_emq (va2 := [.inr 0]) (F := [.inl f0, .inl f1]) (F' := [.inl f0, .inl f1]) (G := [g0, g1]) (G' := [g0, g1]) (ρ := [0, 1]) (φ := [0]) (ψ := [0]) [some 0, none] [some 0, none] zyw_M_waitTop zyw_M_closesSums zye_M_closesSums (by decide +kernel) (zt_M_waitTop hr4) ⟨⟨_, rfl, fun _ => rfl⟩, trivial⟩ ⟨rfl, trivial⟩ rfl rfl rfl rfl rfl rfl rfl) zd228_22 zxt229 rfl (by decide) (by decide) rfl ?_
          refine zv_con hB zd228_25 rfl ?_
          refine zv_ceq hB zd228_26 rfl (fun hc5 => ?_) (fun hc5 => ?_)
          · rw [if_pos hc5] at h
            refine zv_ald hB zd228_37 rfl rfl rfl ?_
            refine zv_ald hB zd228_38 rfl rfl rfl ?_
            obtain ⟨r6, hr6, h⟩ := zi_bind h
            refine zv_cv hB (zv_emq (va2 := [.inr 0]) (F := [.inl f0, .inl f1]) (F' := [.inl f0, .inl f1]) (G := [g0, g1]) (G' := [g0, g1]) (ρ := [0, 1]) (φ := [0]) (ψ := [0]) [some 0, none] [some 0, none] zyw_M_waitTop zyw_M_closesSums zye_M_closesSums (by decide +kernel) (zt_M_waitTop hr6) ⟨⟨_, rfl, fun _ => rfl⟩, trivial⟩ ⟨rfl, trivial⟩ rfl rfl rfl rfl rfl rfl rfl) zd228_39 zxt229 rfl (by decide) (by decide) rfl ?_
            refine zv_con hB zd228_42 rfl ?_
            obtain ⟨r7, hr7, h⟩ := zi_bind h
            refine zv_cv hB (zv_emq (va2 := [.inr 0, .inl r6, .inl 0]) (F := [.inl f0, .inl f1]) (F' := [.inl f0, .inl r7.1]) (G := [g0, g1]) (G' := [g0, r7.2]) (ρ := [0, 2]) (φ := [1]) (ψ := [1]) [none, some 0] [none, some 0] zyw_M_notes zyw_M_closesSums zye_M_closesSums (by decide +kernel) (zt_M_notes hr7) ⟨⟨_, rfl, fun _ => rfl⟩, trivial⟩ ⟨rfl, trivial⟩ rfl rfl rfl rfl rfl rfl rfl) zd228_43 zxt225 rfl (by decide) (by decide) rfl ?_
            refine zv_ald hB zd228_46 rfl rfl rfl ?_
            refine zv_ald hB zd228_47 rfl rfl rfl ?_
            refine zv_getf hB zd228_48 rfl rfl (fun _ _ => ?_)
            refine zv_con hB zd228_51 rfl ?_
            refine zv_subw hB zd228_52 ?_
            refine zv_putf hB zd228_53 rfl rfl (fun h => by cases h) rfl ?_
            refine zv_goto hB zd228_56 rfl ?_
            exact ih _ _ _ _ q h hK
          · rw [if_neg hc5] at h
            refine zv_ald hB zd228_29 rfl rfl rfl ?_
            obtain ⟨r8, hr8, h⟩ := zi_bind h
            refine zv_cv hB (zv_emq (va2 := [.inr 0]) (F := [.inl f0, .inl f1]) (F' := [.inl f0, .inl f1]) (G := [g0, g1]) (G' := [g0, g1]) (ρ := [0, 1]) (φ := [0]) (ψ := [0]) [some 0, none] [some 0, none] zyw_M_waitTop zyw_M_closesSums zye_M_closesSums (by decide +kernel) (zt_M_waitTop hr8) ⟨⟨_, rfl, fun _ => rfl⟩, trivial⟩ ⟨rfl, trivial⟩ rfl rfl rfl rfl rfl rfl rfl) zd228_30 zxt229 rfl (by decide) (by decide) rfl ?_
            refine zv_con hB zd228_33 rfl ?_
            refine zv_cne hB zd228_34 rfl (fun hc9 => ?_) (fun hc9 => ?_)
            · rw [if_neg hc9] at h
              have hq := Option.some.inj h
              subst hq
              refine zv_wk hB (L' := [.inr 1000, .inr 1000]) (F' := [.inl f0, .inl f1]) ⟨fun (h : zv_is (.inr 1000)) => (Nat.lt_irrefl 1000 h).elim, fun (h : zv_is (.inr 1000)) => (Nat.lt_irrefl 1000 h).elim, trivial⟩ ⟨fun _ => rfl, fun _ => rfl, trivial⟩ ?_
              exact hK
            · rw [if_pos hc9] at h
              refine zv_ald hB zd228_37 rfl rfl rfl ?_
              refine zv_ald hB zd228_38 rfl rfl rfl ?_
              obtain ⟨r10, hr10, h⟩ := zi_bind h
              refine zv_cv hB (zv_emq (va2 := [.inr 0]) (F := [.inl f0, .inl f1]) (F' := [.inl f0, .inl f1]) (G := [g0, g1]) (G' := [g0, g1]) (ρ := [0, 1]) (φ := [0]) (ψ := [0]) [some 0, none] [some 0, none] zyw_M_waitTop zyw_M_closesSums zye_M_closesSums (by decide +kernel) (zt_M_waitTop hr10) ⟨⟨_, rfl, fun _ => rfl⟩, trivial⟩ ⟨rfl, trivial⟩ rfl rfl rfl rfl rfl rfl rfl) zd228_39 zxt229 rfl (by decide) (by decide) rfl ?_
              refine zv_con hB zd228_42 rfl ?_
              obtain ⟨r11, hr11, h⟩ := zi_bind h
              refine zv_cv hB (zv_emq (va2 := [.inr 0, .inl r10, .inl 0]) (F := [.inl f0, .inl f1]) (F' := [.inl f0, .inl r11.1]) (G := [g0, g1]) (G' := [g0, r11.2]) (ρ := [0, 2]) (φ := [1]) (ψ := [1]) [none, some 0] [none, some 0] zyw_M_notes zyw_M_closesSums zye_M_closesSums (by decide +kernel) (zt_M_notes hr11) ⟨⟨_, rfl, fun _ => rfl⟩, trivial⟩ ⟨rfl, trivial⟩ rfl rfl rfl rfl rfl rfl rfl) zd228_43 zxt225 rfl (by decide) (by decide) rfl ?_
              refine zv_ald hB zd228_46 rfl rfl rfl ?_
              refine zv_ald hB zd228_47 rfl rfl rfl ?_
              refine zv_getf hB zd228_48 rfl rfl (fun _ _ => ?_)
              refine zv_con hB zd228_51 rfl ?_
              refine zv_subw hB zd228_52 ?_
              refine zv_putf hB zd228_53 rfl rfl (fun h => by cases h) rfl ?_
              refine zv_goto hB zd228_56 rfl ?_
              exact ih _ _ _ _ q h hK
      · rw [if_neg (Int.not_lt.mpr hc2)] at h
        refine zv_ald hB zd228_8 rfl rfl rfl ?_
        obtain ⟨r12, hr12, h⟩ := zi_bind h
        refine zv_cv hB (zv_emq (va2 := [.inr 0]) (F := [.inl f0, .inl f1]) (F' := [.inl f0, .inl f1]) (G := [g0, g1]) (G' := [g0, g1]) (ρ := [0, 1]) (φ := [0]) (ψ := [0]) [some 0, none] [some 0, none] zyw_M_waitTop zyw_M_closesSums zye_M_closesSums (by decide +kernel) (zt_M_waitTop hr12) ⟨⟨_, rfl, fun _ => rfl⟩, trivial⟩ ⟨rfl, trivial⟩ rfl rfl rfl rfl rfl rfl rfl) zd228_9 zxt229 rfl (by decide) (by decide) rfl ?_
        refine zv_con hB zd228_12 rfl ?_
        refine zv_cle hB zd228_14 rfl (fun hc13 => ?_) (fun hc13 => ?_)
        · rw [if_neg (Int.not_lt.mpr hc13)] at h
          refine zv_ald hB zd228_37 rfl rfl rfl ?_
          refine zv_ald hB zd228_38 rfl rfl rfl ?_
          obtain ⟨r14, hr14, h⟩ := zi_bind h
          refine zv_cv hB (zv_emq (va2 := [.inr 0]) (F := [.inl f0, .inl f1]) (F' := [.inl f0, .inl f1]) (G := [g0, g1]) (G' := [g0, g1]) (ρ := [0, 1]) (φ := [0]) (ψ := [0]) [some 0, none] [some 0, none] zyw_M_waitTop zyw_M_closesSums zye_M_closesSums (by decide +kernel) (zt_M_waitTop hr14) ⟨⟨_, rfl, fun _ => rfl⟩, trivial⟩ ⟨rfl, trivial⟩ rfl rfl rfl rfl rfl rfl rfl) zd228_39 zxt229 rfl (by decide) (by decide) rfl ?_
          refine zv_con hB zd228_42 rfl ?_
          obtain ⟨r15, hr15, h⟩ := zi_bind h
          refine zv_cv hB (zv_emq (va2 := [.inr 0, .inl r14, .inl 0]) (F := [.inl f0, .inl f1]) (F' := [.inl f0, .inl r15.1]) (G := [g0, g1]) (G' := [g0, r15.2]) (ρ := [0, 2]) (φ := [1]) (ψ := [1]) [none, some 0] [none, some 0] zyw_M_notes zyw_M_closesSums zye_M_closesSums (by decide +kernel) (zt_M_notes hr15) ⟨⟨_, rfl, fun _ => rfl⟩, trivial⟩ ⟨rfl, trivial⟩ rfl rfl rfl rfl rfl rfl rfl) zd228_43 zxt225 rfl (by decide) (by decide) rfl ?_
          refine zv_ald hB zd228_46 rfl rfl rfl ?_
          refine zv_ald hB zd228_47 rfl rfl rfl ?_
          refine zv_getf hB zd228_48 rfl rfl (fun _ _ => ?_)
          refine zv_con hB zd228_51 rfl ?_
          refine zv_subw hB zd228_52 ?_
          refine zv_putf hB zd228_53 rfl rfl (fun h => by cases h) rfl ?_
          refine zv_goto hB zd228_56 rfl ?_
          exact ih _ _ _ _ q h hK
        · rw [if_pos hc13] at h
          refine zv_ild hB zd228_17 rfl rfl ?_
          refine zv_zeq hB zd228_18 rfl (fun hc16 => ?_) (fun hc16 => ?_)
          · rw [if_pos hc16] at h
            have hq := Option.some.inj h
            subst hq
            refine zv_wk hB (L' := [.inr 1000, .inr 1000]) (F' := [.inl f0, .inl f1]) ⟨fun (h : zv_is (.inr 1000)) => (Nat.lt_irrefl 1000 h).elim, fun (h : zv_is (.inr 1000)) => (Nat.lt_irrefl 1000 h).elim, trivial⟩ ⟨fun _ => rfl, fun _ => rfl, trivial⟩ ?_
            exact hK
          · rw [if_neg hc16] at h
            refine zv_ald hB zd228_21 rfl rfl rfl ?_
            obtain ⟨r17, hr17, h⟩ := zi_bind h
            refine zv_cv hB (zv_emq (va2 := [.inr 0]) (F := [.inl f0, .inl f1]) (F' := [.inl f0, .inl f1]) (G := [g0, g1]) (G' := [g0, g1]) (ρ := [0, 1]) (φ := [0]) (ψ := [0]) [some 0, none] [some 0, none] zyw_M_waitTop zyw_M_closesSums zye_M_closesSums (by decide +kernel) (zt_M_waitTop hr17) ⟨⟨_, rfl, fun _ => rfl⟩, trivial⟩ ⟨rfl, trivial⟩ rfl rfl rfl rfl rfl rfl rfl) zd228_22 zxt229 rfl (by decide) (by decide) rfl ?_
            refine zv_con hB zd228_25 rfl ?_
            refine zv_ceq hB zd228_26 rfl (fun hc18 => ?_) (fun hc18 => ?_)
            · rw [if_pos hc18] at h
              refine zv_ald hB zd228_37 rfl rfl rfl ?_
              refine zv_ald hB zd228_38 rfl rfl rfl ?_
              obtain ⟨r19, hr19, h⟩ := zi_bind h
              refine zv_cv hB (zv_emq (va2 := [.inr 0]) (F := [.inl f0, .inl f1]) (F' := [.inl f0, .inl f1]) (G := [g0, g1]) (G' := [g0, g1]) (ρ := [0, 1]) (φ := [0]) (ψ := [0]) [some 0, none] [some 0, none] zyw_M_waitTop zyw_M_closesSums zye_M_closesSums (by decide +kernel) (zt_M_waitTop hr19) ⟨⟨_, rfl, fun _ => rfl⟩, trivial⟩ ⟨rfl, trivial⟩ rfl rfl rfl rfl rfl rfl rfl) zd228_39 zxt229 rfl (by decide) (by decide) rfl ?_
              refine zv_con hB zd228_42 rfl ?_
              obtain ⟨r20, hr20, h⟩ := zi_bind h
              refine zv_cv hB (zv_emq (va2 := [.inr 0, .inl r19, .inl 0]) (F := [.inl f0, .inl f1]) (F' := [.inl f0, .inl r20.1]) (G := [g0, g1]) (G' := [g0, r20.2]) (ρ := [0, 2]) (φ := [1]) (ψ := [1]) [none, some 0] [none, some 0] zyw_M_notes zyw_M_closesSums zye_M_closesSums (by decide +kernel) (zt_M_notes hr20) ⟨⟨_, rfl, fun _ => rfl⟩, trivial⟩ ⟨rfl, trivial⟩ rfl rfl rfl rfl rfl rfl rfl) zd228_43 zxt225 rfl (by decide) (by decide) rfl ?_
              refine zv_ald hB zd228_46 rfl rfl rfl ?_
              refine zv_ald hB zd228_47 rfl rfl rfl ?_
              refine zv_getf hB zd228_48 rfl rfl (fun _ _ => ?_)
              refine zv_con hB zd228_51 rfl ?_
              refine zv_subw hB zd228_52 ?_
              refine zv_putf hB zd228_53 rfl rfl (fun h => by cases h) rfl ?_
              refine zv_goto hB zd228_56 rfl ?_
              exact ih _ _ _ _ q h hK
            · rw [if_neg hc18] at h
              refine zv_ald hB zd228_29 rfl rfl rfl ?_
              obtain ⟨r21, hr21, h⟩ := zi_bind h
              refine zv_cv hB (zv_emq (va2 := [.inr 0]) (F := [.inl f0, .inl f1]) (F' := [.inl f0, .inl f1]) (G := [g0, g1]) (G' := [g0, g1]) (ρ := [0, 1]) (φ := [0]) (ψ := [0]) [some 0, none] [some 0, none] zyw_M_waitTop zyw_M_closesSums zye_M_closesSums (by decide +kernel) (zt_M_waitTop hr21) ⟨⟨_, rfl, fun _ => rfl⟩, trivial⟩ ⟨rfl, trivial⟩ rfl rfl rfl rfl rfl rfl rfl) zd228_30 zxt229 rfl (by decide) (by decide) rfl ?_
              refine zv_con hB zd228_33 rfl ?_
              refine zv_cne hB zd228_34 rfl (fun hc22 => ?_) (fun hc22 => ?_)
              · rw [if_neg hc22] at h
                have hq := Option.some.inj h
                subst hq
                refine zv_wk hB (L' := [.inr 1000, .inr 1000]) (F' := [.inl f0, .inl f1]) ⟨fun (h : zv_is (.inr 1000)) => (Nat.lt_irrefl 1000 h).elim, fun (h : zv_is (.inr 1000)) => (Nat.lt_irrefl 1000 h).elim, trivial⟩ ⟨fun _ => rfl, fun _ => rfl, trivial⟩ ?_
                exact hK
              · rw [if_pos hc22] at h
                refine zv_ald hB zd228_37 rfl rfl rfl ?_
                refine zv_ald hB zd228_38 rfl rfl rfl ?_
                obtain ⟨r23, hr23, h⟩ := zi_bind h
                refine zv_cv hB (zv_emq (va2 := [.inr 0]) (F := [.inl f0, .inl f1]) (F' := [.inl f0, .inl f1]) (G := [g0, g1]) (G' := [g0, g1]) (ρ := [0, 1]) (φ := [0]) (ψ := [0]) [some 0, none] [some 0, none] zyw_M_waitTop zyw_M_closesSums zye_M_closesSums (by decide +kernel) (zt_M_waitTop hr23) ⟨⟨_, rfl, fun _ => rfl⟩, trivial⟩ ⟨rfl, trivial⟩ rfl rfl rfl rfl rfl rfl rfl) zd228_39 zxt229 rfl (by decide) (by decide) rfl ?_
                refine zv_con hB zd228_42 rfl ?_
                obtain ⟨r24, hr24, h⟩ := zi_bind h
                refine zv_cv hB (zv_emq (va2 := [.inr 0, .inl r23, .inl 0]) (F := [.inl f0, .inl f1]) (F' := [.inl f0, .inl r24.1]) (G := [g0, g1]) (G' := [g0, r24.2]) (ρ := [0, 2]) (φ := [1]) (ψ := [1]) [none, some 0] [none, some 0] zyw_M_notes zyw_M_closesSums zye_M_closesSums (by decide +kernel) (zt_M_notes hr24) ⟨⟨_, rfl, fun _ => rfl⟩, trivial⟩ ⟨rfl, trivial⟩ rfl rfl rfl rfl rfl rfl rfl) zd228_43 zxt225 rfl (by decide) (by decide) rfl ?_
                refine zv_ald hB zd228_46 rfl rfl rfl ?_
                refine zv_ald hB zd228_47 rfl rfl rfl ?_
                refine zv_getf hB zd228_48 rfl rfl (fun _ _ => ?_)
                refine zv_con hB zd228_51 rfl ?_
                refine zv_subw hB zd228_52 ?_
                refine zv_putf hB zd228_53 rfl rfl (fun h => by cases h) rfl ?_
                refine zv_goto hB zd228_56 rfl ?_
                exact ih _ _ _ _ q h hK
  unfold zf_M_closesSums at h
  obtain ⟨q25, hq25, h⟩ := zi_bind h
  refine l0 _ _ _ _ _ q25 hq25 ?_
  show good 59 [.inr 1000, .inr 1000] [] [.inl q25.1, .inl q25.2.1] [g0, q25.2.2]
  have hw := Option.some.inj h
  subst hw
  exact hvret _ _ _ _ zd228_59 trivial ⟨rfl, rfl, rfl⟩
/-! M_readsSum ()Z -/
-- names: 0 StarTalesModel('arg', 0), 1 (1, 220)(0, 12, 3), 2 (0, 220)(0, 12, 15), 3 (0, 220)(0, 12, 14)
-- fields: f0 = 0.waiting_, f1 = 0.place0_, f2 = 0.length0_, f3 = 0.open_, f4 = 0.fault_, f5 = 0.codeMany_, f6 = 0.number0_; arrays: g0 = 1, g1 = 2, g2 = 3; out: [('ret', None), ('f', 0), ('f', 1), ('f', 3), ('f', 4), ('f', 5), ('f', 6), ('g', 1), ('g', 2)]
abbrev zy_M_readsSum : zNL := (4, [(0, 12)], [(0, 12, 10, 0), (0, 12, 5, 1), (0, 12, 6, 2), (0, 12, 8, 3), (0, 12, 7, 4), (0, 12, 9, 5), (0, 12, 12, 6)], [(0, 12, 3, 1), (0, 12, 15, 2), (0, 12, 14, 3)], [(1, 1, 220, 0), (2, 0, 220, 1), (3, 0, 220, 2)])
theorem zyw_M_readsSum : zv_wf zy_M_readsSum = true := by decide +kernel
theorem zye_M_readsSum : zv_ek2 zy_M_readsSum = true := by decide +kernel
def zf_M_readsSum_l0_b (x1 : Int) (f2 : Int) (g0 : (Int → Int)) (rec : Int → Int → Int → Int → Int → Int → (Int → Int) → (Int → Int) → Option (((Int × Int × Int × Int × Int × Int × (Int → Int) × (Int → Int)) ⊕ (Int × Int × Int × Int × Int × Int × Int × (Int → Int) × (Int → Int))))) (f0 : Int) (f1 : Int) (f3 : Int) (f4 : Int) (f5 : Int) (f6 : Int) (g1 : (Int → Int)) (g2 : (Int → Int)) : Option (((Int × Int × Int × Int × Int × Int × (Int → Int) × (Int → Int)) ⊕ (Int × Int × Int × Int × Int × Int × Int × (Int → Int) × (Int → Int)))) := (zf_M_here f1 f2 g0).bind fun r3 => ((zf_M_sumSign r3).bind fun r4 => (if r4 = (-1) then ((zf_M_here f1 f2 g0).bind fun r6 => (if r6 = 93 then ((zf_M_hasOpenSum x1 f0 g1).bind fun r8 => (if r8 = 0 then (some (.inl (f0, f1, f3, f4, f5, f6, g1, g2))) else ((zf_M_closesSums 1 f0 f5 g1 g2).bind fun r10 => (rec (zi_w (r10.1 - 1)) (zi_w (f1 + 1)) (zi_w (f3 - 1)) f4 r10.2.1 f6 g1 r10.2.2)))) else (some (.inl (f0, f1, f3, f4, f5, f6, g1, g2))))) else (if r4 < 4 then ((zf_M_closesSums 1 f0 f5 g1 g2).bind fun r16 => (cond (zi_ix r16.1 220) ((zf_M_readsFactor (zi_w (f1 + 1)) f2 f3 (zi_w (r16.1 + 1)) f4 r16.2.1 f6 g0 (zv_up g1 r16.1 (zi_w (1048576 * r4))) r16.2.2).bind fun r18 => (if r18.1 = 0 then (some (.inr (0, r18.2.2.2.1, r18.2.1, r18.2.2.1, r18.2.2.2.2.1, r18.2.2.2.2.2.1, r18.2.2.2.2.2.2.1, r18.2.2.2.2.2.2.2.1, r18.2.2.2.2.2.2.2.2))) else (rec r18.2.2.2.1 r18.2.1 r18.2.2.1 r18.2.2.2.2.1 r18.2.2.2.2.2.1 r18.2.2.2.2.2.2.1 r18.2.2.2.2.2.2.2.1 r18.2.2.2.2.2.2.2.2))) none)) else ((zf_M_closesSums 0 f0 f5 g1 g2).bind fun r12 => (cond (zi_ix r12.1 220) ((zf_M_readsFactor (zi_w (f1 + 1)) f2 f3 (zi_w (r12.1 + 1)) f4 r12.2.1 f6 g0 (zv_up g1 r12.1 (zi_w (1048576 * r4))) r12.2.2).bind fun r14 => (if r14.1 = 0 then (some (.inr (0, r14.2.2.2.1, r14.2.1, r14.2.2.1, r14.2.2.2.2.1, r14.2.2.2.2.2.1, r14.2.2.2.2.2.2.1, r14.2.2.2.2.2.2.2.1, r14.2.2.2.2.2.2.2.2))) else (rec r14.2.2.2.1 r14.2.1 r14.2.2.1 r14.2.2.2.2.1 r14.2.2.2.2.2.1 r14.2.2.2.2.2.2.1 r14.2.2.2.2.2.2.2.1 r14.2.2.2.2.2.2.2.2))) none)))))
def zf_M_readsSum_l0 (x1 : Int) (f2 : Int) (g0 : (Int → Int)) : Nat → Int → Int → Int → Int → Int → Int → (Int → Int) → (Int → Int) → Option (((Int × Int × Int × Int × Int × Int × (Int → Int) × (Int → Int)) ⊕ (Int × Int × Int × Int × Int × Int × Int × (Int → Int) × (Int → Int))))
  | 0, _, _, _, _, _, _, _, _ => none
  | n + 1, f0, f1, f3, f4, f5, f6, g1, g2 => zf_M_readsSum_l0_b x1 f2 g0 (zf_M_readsSum_l0 x1 f2 g0 n) f0 f1 f3 f4 f5 f6 g1 g2
def zf_M_readsSum (f0 : Int) (f1 : Int) (f2 : Int) (f3 : Int) (f4 : Int) (f5 : Int) (f6 : Int) (g0 : (Int → Int)) (g1 : (Int → Int)) (g2 : (Int → Int)) : Option (Int × Int × Int × Int × Int × Int × Int × (Int → Int) × (Int → Int)) := (zf_M_readsFactor f1 f2 f3 f0 f4 f5 f6 g0 g1 g2).bind fun r1 => (if r1.1 = 0 then (some (0, r1.2.2.2.1, r1.2.1, r1.2.2.1, r1.2.2.2.2.1, r1.2.2.2.2.2.1, r1.2.2.2.2.2.2.1, r1.2.2.2.2.2.2.2.1, r1.2.2.2.2.2.2.2.2)) else ((zf_M_readsSum_l0 f0 f2 g0 zi_fu r1.2.2.2.1 r1.2.1 r1.2.2.1 r1.2.2.2.2.1 r1.2.2.2.2.2.1 r1.2.2.2.2.2.2.1 r1.2.2.2.2.2.2.2.1 r1.2.2.2.2.2.2.2.2).bind fun q20 => Sum.elim (fun e21 => ((zf_M_hasOpenSum f0 e21.1 e21.2.2.2.2.2.2.1).bind fun r22 => (if r22 = 0 then ((zf_M_closesSums 1 e21.1 e21.2.2.2.2.1 e21.2.2.2.2.2.2.1 e21.2.2.2.2.2.2.2).bind fun r24 => (some (1, r24.1, e21.2.1, e21.2.2.1, e21.2.2.2.1, r24.2.1, e21.2.2.2.2.2.1, e21.2.2.2.2.2.2.1, r24.2.2))) else ((zf_M_wrongAt 1 e21.2.1 e21.2.2.2.1).bind fun r25 => (cond (zi_bo r25.1) (some (r25.1, e21.1, e21.2.1, e21.2.2.1, r25.2, e21.2.2.2.2.1, e21.2.2.2.2.2.1, e21.2.2.2.2.2.2.1, e21.2.2.2.2.2.2.2)) none))))) (fun w27 => some w27) q20))
theorem zd220_0 : decode zxm220.2.1 0 = .ok (.aload_n 0, 1) := by decide +kernel
theorem zd220_1 : decode zxm220.2.1 1 = .ok (.getfield 206, 3) := by decide +kernel
theorem zd220_4 : decode zxm220.2.1 4 = .ok (.istore_n 1, 1) := by decide +kernel
theorem zd220_5 : decode zxm220.2.1 5 = .ok (.aload_n 0, 1) := by decide +kernel
theorem zd220_6 : decode zxm220.2.1 6 = .ok (.invokevirtual 225, 3) := by decide +kernel
theorem zd220_9 : decode zxm220.2.1 9 = .ok (.ifCond .ne 5, 3) := by decide +kernel
theorem zd220_12 : decode zxm220.2.1 12 = .ok (.iconst 0, 1) := by decide +kernel
theorem zd220_13 : decode zxm220.2.1 13 = .ok (.ireturn, 1) := by decide +kernel
theorem zd220_14 : decode zxm220.2.1 14 = .ok (.aload_n 0, 1) := by decide +kernel
theorem zd220_15 : decode zxm220.2.1 15 = .ok (.invokevirtual 182, 3) := by decide +kernel
theorem zd220_18 : decode zxm220.2.1 18 = .ok (.invokestatic 228, 3) := by decide +kernel
theorem zd220_21 : decode zxm220.2.1 21 = .ok (.istore_n 2, 1) := by decide +kernel
theorem zd220_22 : decode zxm220.2.1 22 = .ok (.iload_n 2, 1) := by decide +kernel
theorem zd220_23 : decode zxm220.2.1 23 = .ok (.iconst (-1), 1) := by decide +kernel
theorem zd220_24 : decode zxm220.2.1 24 = .ok (.if_icmp .eq 59, 3) := by decide +kernel
theorem zd220_27 : decode zxm220.2.1 27 = .ok (.aload_n 0, 1) := by decide +kernel
theorem zd220_28 : decode zxm220.2.1 28 = .ok (.iload_n 2, 1) := by decide +kernel
theorem zd220_29 : decode zxm220.2.1 29 = .ok (.iconst 4, 1) := by decide +kernel
theorem zd220_30 : decode zxm220.2.1 30 = .ok (.if_icmp .ge 7, 3) := by decide +kernel
theorem zd220_33 : decode zxm220.2.1 33 = .ok (.iconst 1, 1) := by decide +kernel
theorem zd220_34 : decode zxm220.2.1 34 = .ok (.goto 4, 3) := by decide +kernel
theorem zd220_37 : decode zxm220.2.1 37 = .ok (.iconst 0, 1) := by decide +kernel
theorem zd220_38 : decode zxm220.2.1 38 = .ok (.invokevirtual 231, 3) := by decide +kernel
theorem zd220_41 : decode zxm220.2.1 41 = .ok (.aload_n 0, 1) := by decide +kernel
theorem zd220_42 : decode zxm220.2.1 42 = .ok (.getfield 26, 3) := by decide +kernel
theorem zd220_45 : decode zxm220.2.1 45 = .ok (.aload_n 0, 1) := by decide +kernel
theorem zd220_46 : decode zxm220.2.1 46 = .ok (.getfield 206, 3) := by decide +kernel
theorem zd220_49 : decode zxm220.2.1 49 = .ok (.ldc 202, 2) := by decide +kernel
theorem zd220_51 : decode zxm220.2.1 51 = .ok (.iload_n 2, 1) := by decide +kernel
theorem zd220_52 : decode zxm220.2.1 52 = .ok (.imul, 1) := by decide +kernel
theorem zd220_53 : decode zxm220.2.1 53 = .ok (.iastore, 1) := by decide +kernel
theorem zd220_54 : decode zxm220.2.1 54 = .ok (.aload_n 0, 1) := by decide +kernel
theorem zd220_55 : decode zxm220.2.1 55 = .ok (.aload_n 0, 1) := by decide +kernel
theorem zd220_56 : decode zxm220.2.1 56 = .ok (.getfield 206, 3) := by decide +kernel
theorem zd220_59 : decode zxm220.2.1 59 = .ok (.iconst 1, 1) := by decide +kernel
theorem zd220_60 : decode zxm220.2.1 60 = .ok (.iadd, 1) := by decide +kernel
theorem zd220_61 : decode zxm220.2.1 61 = .ok (.putfield 206, 3) := by decide +kernel
theorem zd220_64 : decode zxm220.2.1 64 = .ok (.aload_n 0, 1) := by decide +kernel
theorem zd220_65 : decode zxm220.2.1 65 = .ok (.aload_n 0, 1) := by decide +kernel
theorem zd220_66 : decode zxm220.2.1 66 = .ok (.getfield 176, 3) := by decide +kernel
theorem zd220_69 : decode zxm220.2.1 69 = .ok (.iconst 1, 1) := by decide +kernel
theorem zd220_70 : decode zxm220.2.1 70 = .ok (.iadd, 1) := by decide +kernel
theorem zd220_71 : decode zxm220.2.1 71 = .ok (.putfield 176, 3) := by decide +kernel
theorem zd220_74 : decode zxm220.2.1 74 = .ok (.aload_n 0, 1) := by decide +kernel
theorem zd220_75 : decode zxm220.2.1 75 = .ok (.invokevirtual 225, 3) := by decide +kernel
theorem zd220_78 : decode zxm220.2.1 78 = .ok (.ifCond .ne 85, 3) := by decide +kernel
theorem zd220_81 : decode zxm220.2.1 81 = .ok (.iconst 0, 1) := by decide +kernel
theorem zd220_82 : decode zxm220.2.1 82 = .ok (.ireturn, 1) := by decide +kernel
theorem zd220_83 : decode zxm220.2.1 83 = .ok (.aload_n 0, 1) := by decide +kernel
theorem zd220_84 : decode zxm220.2.1 84 = .ok (.invokevirtual 182, 3) := by decide +kernel
theorem zd220_87 : decode zxm220.2.1 87 = .ok (.bipush 93, 2) := by decide +kernel
theorem zd220_89 : decode zxm220.2.1 89 = .ok (.if_icmp .ne 49, 3) := by decide +kernel
theorem zd220_92 : decode zxm220.2.1 92 = .ok (.aload_n 0, 1) := by decide +kernel
theorem zd220_93 : decode zxm220.2.1 93 = .ok (.iload_n 1, 1) := by decide +kernel
theorem zd220_94 : decode zxm220.2.1 94 = .ok (.invokevirtual 235, 3) := by decide +kernel
theorem zd220_97 : decode zxm220.2.1 97 = .ok (.ifCond .eq 41, 3) := by decide +kernel
theorem zd220_100 : decode zxm220.2.1 100 = .ok (.aload_n 0, 1) := by decide +kernel
theorem zd220_101 : decode zxm220.2.1 101 = .ok (.iconst 1, 1) := by decide +kernel
theorem zd220_102 : decode zxm220.2.1 102 = .ok (.invokevirtual 231, 3) := by decide +kernel
theorem zd220_105 : decode zxm220.2.1 105 = .ok (.aload_n 0, 1) := by decide +kernel
theorem zd220_106 : decode zxm220.2.1 106 = .ok (.aload_n 0, 1) := by decide +kernel
theorem zd220_107 : decode zxm220.2.1 107 = .ok (.getfield 206, 3) := by decide +kernel
theorem zd220_110 : decode zxm220.2.1 110 = .ok (.iconst 1, 1) := by decide +kernel
theorem zd220_111 : decode zxm220.2.1 111 = .ok (.isub, 1) := by decide +kernel
theorem zd220_112 : decode zxm220.2.1 112 = .ok (.putfield 206, 3) := by decide +kernel
theorem zd220_115 : decode zxm220.2.1 115 = .ok (.aload_n 0, 1) := by decide +kernel
theorem zd220_116 : decode zxm220.2.1 116 = .ok (.aload_n 0, 1) := by decide +kernel
theorem zd220_117 : decode zxm220.2.1 117 = .ok (.getfield 203, 3) := by decide +kernel
theorem zd220_120 : decode zxm220.2.1 120 = .ok (.iconst 1, 1) := by decide +kernel
theorem zd220_121 : decode zxm220.2.1 121 = .ok (.isub, 1) := by decide +kernel
theorem zd220_122 : decode zxm220.2.1 122 = .ok (.putfield 203, 3) := by decide +kernel
theorem zd220_125 : decode zxm220.2.1 125 = .ok (.aload_n 0, 1) := by decide +kernel
theorem zd220_126 : decode zxm220.2.1 126 = .ok (.aload_n 0, 1) := by decide +kernel
theorem zd220_127 : decode zxm220.2.1 127 = .ok (.getfield 176, 3) := by decide +kernel
theorem zd220_130 : decode zxm220.2.1 130 = .ok (.iconst 1, 1) := by decide +kernel
theorem zd220_131 : decode zxm220.2.1 131 = .ok (.iadd, 1) := by decide +kernel
theorem zd220_132 : decode zxm220.2.1 132 = .ok (.putfield 176, 3) := by decide +kernel
theorem zd220_135 : decode zxm220.2.1 135 = .ok (.goto 28, 3) := by decide +kernel
theorem zd220_138 : decode zxm220.2.1 138 = .ok (.aload_n 0, 1) := by decide +kernel
theorem zd220_139 : decode zxm220.2.1 139 = .ok (.iload_n 1, 1) := by decide +kernel
theorem zd220_140 : decode zxm220.2.1 140 = .ok (.invokevirtual 235, 3) := by decide +kernel
theorem zd220_143 : decode zxm220.2.1 143 = .ok (.ifCond .eq 13, 3) := by decide +kernel
theorem zd220_146 : decode zxm220.2.1 146 = .ok (.aload_n 0, 1) := by decide +kernel
theorem zd220_147 : decode zxm220.2.1 147 = .ok (.iconst 1, 1) := by decide +kernel
theorem zd220_148 : decode zxm220.2.1 148 = .ok (.aload_n 0, 1) := by decide +kernel
theorem zd220_149 : decode zxm220.2.1 149 = .ok (.getfield 176, 3) := by decide +kernel
theorem zd220_152 : decode zxm220.2.1 152 = .ok (.invokevirtual 189, 3) := by decide +kernel
theorem zd220_155 : decode zxm220.2.1 155 = .ok (.ireturn, 1) := by decide +kernel
theorem zd220_156 : decode zxm220.2.1 156 = .ok (.aload_n 0, 1) := by decide +kernel
theorem zd220_157 : decode zxm220.2.1 157 = .ok (.iconst 1, 1) := by decide +kernel
theorem zd220_158 : decode zxm220.2.1 158 = .ok (.invokevirtual 231, 3) := by decide +kernel
theorem zd220_161 : decode zxm220.2.1 161 = .ok (.iconst 1, 1) := by decide +kernel
theorem zd220_162 : decode zxm220.2.1 162 = .ok (.ireturn, 1) := by decide +kernel
theorem zd220_163 : decode zxm220.2.1 163 = .ok (.goto (-149), 3) := by decide +kernel
theorem zt_M_readsSum {f0 : Int} {f1 : Int} {f2 : Int} {f3 : Int} {f4 : Int} {f5 : Int} {f6 : Int} {g0 : (Int → Int)} {g1 : (Int → Int)} {g2 : (Int → Int)} {o : Int × Int × Int × Int × Int × Int × Int × (Int → Int) × (Int → Int)} (h : zf_M_readsSum f0 f1 f2 f3 f4 f5 f6 g0 g1 g2 = some o) : zv_Fn z_TB z_cl z_KX zy_M_readsSum zxm220 (4, 240) [.inr 0] [.inl f0, .inl f1, .inl f2, .inl f3, .inl f4, .inl f5, .inl f6] [g0, g1, g2] (some o.1) [.inl o.2.1, .inl o.2.2.1, .inl f2, .inl o.2.2.2.1, .inl o.2.2.2.2.1, .inl o.2.2.2.2.2.1, .inl o.2.2.2.2.2.2.1] [g0, o.2.2.2.2.2.2.2.1, o.2.2.2.2.2.2.2.2] := zv_meth (K := (z_KF13, z_KC13, z_KL13, z_KT13, [], [], [], none)) (FT := z_FT) (MT := z_MT) (n := 1) zxp220 (z_ks13 _ (fun _ h => List.mem_cons_of_mem _ h) _ _ _ _ (fun j r h _ => by cases h)) (fun _ _ => zs_KX_p) zyw_M_readsSum (fun va F G h => by obtain ⟨rfl, _⟩ := h; rfl) (fun va F G h => by obtain ⟨rfl, _⟩ := h; rfl) rfl fun good va F G hB hret hvret hP => by
  obtain ⟨rfl, rfl, rfl⟩ := hP
  have l0 : ∀ (n : Nat) (x1 : Int) (f0 : Int) (f1 : Int) (f3 : Int) (f4 : Int) (f5 : Int) (f6 : Int) (g1 : (Int → Int)) (g2 : (Int → Int)) (q : ((Int × Int × Int × Int × Int × Int × (Int → Int) × (Int → Int)) ⊕ (Int × Int × Int × Int × Int × Int × Int × (Int → Int) × (Int → Int)))), zf_M_readsSum_l0 x1 f2 g0 n f0 f1 f3 f4 f5 f6 g1 g2 = some q → (Sum.elim (fun e : Int × Int × Int × Int × Int × Int × (Int → Int) × (Int → Int) => good 138 [.inr 0, .inl x1, .inr 1000] [] [.inl e.1, .inl e.2.1, .inl f2, .inl e.2.2.1, .inl e.2.2.2.1, .inl e.2.2.2.2.1, .inl e.2.2.2.2.2.1] [g0, e.2.2.2.2.2.2.1, e.2.2.2.2.2.2.2]) (fun w : Int × Int × Int × Int × Int × Int × Int × (Int → Int) × (Int → Int) => w = o) q) → good 14 [.inr 0, .inl x1, .inr 1000] [] [.inl f0, .inl f1, .inl f2, .inl f3, .inl f4, .inl f5, .inl f6] [g0, g1, g2] := by
    intro n
    induction n with
    | zero => intro x1 f0 f1 f3 f4 f5 f6 g1 g2 q h; exact absurd (show none = some q from h) (fun h => by cases h)
    | succ n ih =>
      intro x1 f0 f1 f3 f4 f5 f6 g1 g2 q h hK
      replace h : zf_M_readsSum_l0_b x1 f2 g0 (zf_M_readsSum_l0 x1 f2 g0 n) f0 f1 f3 f4 f5 f6 g1 g2 = some q := h
      unfold zf_M_readsSum_l0_b at h
      refine zv_ald hB zd220_14 rfl rfl rfl ?_
      obtain ⟨r3, hr3, h⟩ := zi_bind h
      refine zv_cv hB (zv_emq (va2 := [.inr 0]) (F := [.inl f0, .inl f1, .inl f2, .inl f3, .inl f4, .inl f5, .inl f6]) (F' := [.inl f0, .inl f1, .inl f2, .inl f3, .inl f4, .inl f5, .inl f6]) (G := [g0, g1, g2]) (G' := [g0, g1, g2]) (ρ := [0, 1]) (φ := [1, 2]) (ψ := [0]) [none, some 0, some 1, none, none, none, none] [some 0, none, none] zyw_M_here zyw_M_readsSum zye_M_readsSum (by decide +kernel) (zt_M_here hr3) ⟨⟨_, rfl, fun _ => rfl⟩, ⟨_, rfl, fun _ => rfl⟩, trivial⟩ ⟨rfl, trivial⟩ rfl rfl rfl rfl rfl rfl rfl) zd220_15 zxt217 rfl (by decide) (by decide) rfl ?_
      obtain ⟨r4, hr4, h⟩ := zi_bind h
      refine zv_cs hB (zv_emq (va2 := [.inl r3]) (F := [.inl f0, .inl f1, .inl f2, .inl f3, .inl f4, .inl f5, .inl f6]) (F' := [.inl f0, .inl f1, .inl f2, .inl f3, .inl f4, .inl f5, .inl f6]) (G := [g0, g1, g2]) (G' := [g0, g1, g2]) (ρ := []) (φ := []) (ψ := []) [none, none, none, none, none, none, none] [none, none, none] zyw_M_sumSign zyw_M_readsSum zye_M_readsSum (by decide +kernel) (zt_M_sumSign hr4) trivial trivial rfl rfl rfl rfl rfl rfl rfl) zd220_18 zxt227 rfl (by decide) (by decide) rfl ?_
      refine zv_ist hB zd220_21 rfl rfl rfl ?_
      refine zv_ild hB zd220_22 rfl rfl ?_
      refine zv_con hB zd220_23 rfl ?_
      refine zv_ceq hB zd220_24 rfl (fun hc5 => ?_) (fun hc5 => ?_)
      · rw [if_pos hc5] at h
        refine zv_ald hB zd220_83 rfl rfl rfl ?_
        obtain ⟨r6, hr6, h⟩ := zi_bind h
        refine zv_cv hB (zv_emq (va2 := [.inr 0]) (F := [.inl f0, .inl f1, .inl f2, .inl f3, .inl f4, .inl f5, .inl f6]) (F' := [.inl f0, .inl f1, .inl f2, .inl f3, .inl f4, .inl f5, .inl f6]) (G := [g0, g1, g2]) (G' := [g0, g1, g2]) (ρ := [0, 1]) (φ := [1, 2]) (ψ := [0]) [none, some 0, some 1, none, none, none, none] [some 0, none, none] zyw_M_here zyw_M_readsSum zye_M_readsSum (by decide +kernel) (zt_M_here hr6) ⟨⟨_, rfl, fun _ => rfl⟩, ⟨_, rfl, fun _ => rfl⟩, trivial⟩ ⟨rfl, trivial⟩ rfl rfl rfl rfl rfl rfl rfl) zd220_84 zxt217 rfl (by decide) (by decide) rfl ?_
        refine zv_con hB zd220_87 rfl ?_
        refine zv_cne hB zd220_89 rfl (fun hc7 => ?_) (fun hc7 => ?_)
        · rw [if_neg hc7] at h
          have hq := Option.some.inj h
          subst hq
          refine zv_wk hB (L' := [.inr 0, .inl x1, .inr 1000]) (F' := [.inl f0, .inl f1, .inl f2, .inl f3, .inl f4, .inl f5, .inl f6]) ⟨fun _ => rfl, fun _ => rfl, fun (h : zv_is (.inr 1000)) => (Nat.lt_irrefl 1000 h).elim, trivial⟩ ⟨fun _ => rfl, fun _ => rfl, fun _ => rfl, fun _ => rfl, fun _ => rfl, fun _ => rfl, fun _ => rfl, trivial⟩ ?_
          exact hK
        · rw [if_pos hc7] at h
          refine zv_ald hB zd220_92 rfl rfl rfl ?_
          refine zv_ild hB zd220_93 rfl rfl ?_
          obtain ⟨r8, hr8, h⟩ := zi_bind h
          refine zv_cv hB (zv_emq (va2 := [.inr 0, .inl x1]) (F := [.inl f0, .inl f1, .inl f2, .inl f3, .inl f4, .inl f5, .inl f6]) (F' := [.inl f0, .inl f1, .inl f2, .inl f3, .inl f4, .inl f5, .inl f6]) (G := [g0, g1, g2]) (G' := [g0, g1, g2]) (ρ := [0, 2]) (φ := [0]) (ψ := [1]) [some 0, none, none, none, none, none, none] [none, some 0, none] zyw_M_hasOpenSum zyw_M_readsSum zye_M_readsSum (by decide +kernel) (zt_M_hasOpenSum hr8) ⟨⟨_, rfl, fun _ => rfl⟩, trivial⟩ ⟨rfl, trivial⟩ rfl rfl rfl rfl rfl rfl rfl) zd220_94 zxt230 rfl (by decide) (by decide) rfl ?_
          refine zv_zeq hB zd220_97 rfl (fun hc9 => ?_) (fun hc9 => ?_)
          · rw [if_pos hc9] at h
            have hq := Option.some.inj h
            subst hq
            refine zv_wk hB (L' := [.inr 0, .inl x1, .inr 1000]) (F' := [.inl f0, .inl f1, .inl f2, .inl f3, .inl f4, .inl f5, .inl f6]) ⟨fun _ => rfl, fun _ => rfl, fun (h : zv_is (.inr 1000)) => (Nat.lt_irrefl 1000 h).elim, trivial⟩ ⟨fun _ => rfl, fun _ => rfl, fun _ => rfl, fun _ => rfl, fun _ => rfl, fun _ => rfl, fun _ => rfl, trivial⟩ ?_
            exact hK
          · rw [if_neg hc9] at h
            refine zv_ald hB zd220_100 rfl rfl rfl ?_
            refine zv_con hB zd220_101 rfl ?_
            obtain ⟨r10, hr10, h⟩ := zi_bind h
            refine zv_cv hB (zv_emq (va2 := [.inr 0, .inl 1]) (F := [.inl f0, .inl f1, .inl f2, .inl f3, .inl f4, .inl f5, .inl f6]) (F' := [.inl r10.1, .inl f1, .inl f2, .inl f3, .inl f4, .inl r10.2.1, .inl f6]) (G := [g0, g1, g2]) (G' := [g0, g1, r10.2.2]) (ρ := [0, 2, 3]) (φ := [0, 5]) (ψ := [1, 2]) [some 0, none, none, none, none, some 1, none] [none, some 0, some 1] zyw_M_closesSums zyw_M_readsSum zye_M_readsSum (by decide +kernel) (zt_M_closesSums hr10) ⟨⟨_, rfl, fun _ => rfl⟩, ⟨_, rfl, fun _ => rfl⟩, trivial⟩ ⟨rfl, rfl, trivial⟩ rfl rfl rfl rfl rfl rfl rfl) zd220_102 zxt228 rfl (by decide) (by decide) rfl ?_
            refine zv_ald hB zd220_105 rfl rfl rfl ?_
            refine zv_ald hB zd220_106 rfl rfl rfl ?_
            refine zv_getf hB zd220_107 rfl rfl (fun _ _ => ?_)
            refine zv_con hB zd220_110 rfl ?_
            refine zv_subw hB zd220_111 ?_
            refine zv_putf hB zd220_112 rfl rfl (fun h => by cases h) rfl ?_
            refine zv_ald hB zd220_115 rfl rfl rfl ?_
            refine zv_ald hB zd220_116 rfl rfl rfl ?_
            refine zv_getf hB zd220_117 rfl rfl (fun _ _ => ?_)
            refine zv_con hB zd220_120 rfl ?_
            refine zv_subw hB zd220_121 ?_
            refine zv_putf hB zd220_122 rfl rfl (fun h => by cases h) rfl ?_
            refine zv_ald hB zd220_125 rfl rfl rfl ?_
            refine zv_ald hB zd220_126 rfl rfl rfl ?_
            refine zv_getf hB zd220_127 rfl rfl (fun _ _ => ?_)
            refine zv_con hB zd220_130 rfl ?_
            refine zv_addw hB zd220_131 ?_
            refine zv_putf hB zd220_132 rfl rfl (fun h => by cases h) rfl ?_
            refine zv_goto hB zd220_135 rfl ?_
            refine zv_goto hB zd220_163 rfl ?_
            refine zv_wk hB (L' := [.inr 0, .inl x1, .inr 1000]) (F' := [.inl (zi_w (r10.1 - 1)), .inl (zi_w (f1 + 1)), .inl f2, .inl (zi_w (f3 - 1)), .inl f4, .inl r10.2.1, .inl f6]) ⟨fun _ => rfl, fun _ => rfl, fun (h : zv_is (.inr 1000)) => (Nat.lt_irrefl 1000 h).elim, trivial⟩ ⟨fun _ => rfl, fun _ => rfl, fun _ => rfl, fun _ => rfl, fun _ => rfl, fun _ => rfl, fun _ => rfl, trivial⟩ ?_
            exact ih _ _ _ _ _ _ _ _ _ q h hK
      · rw [if_neg hc5] at h
        refine zv_ald hB zd220_27 rfl rfl rfl ?_
        refine zv_ild hB zd220_28 rfl rfl ?_
        refine zv_con hB zd220_29 rfl ?_
        refine zv_cge hB zd220_30 rfl (fun hc11 => ?_) (fun hc11 => ?_)
        · rw [if_neg (Int.not_lt.mpr hc11)] at h
          refine zv_con hB zd220_37 rfl ?_
          obtain ⟨r12, hr12, h⟩ := zi_bind h
          refine zv_cv hB (zv_emq (va2 := [.inr 0, .inl 0]) (F := [.inl f0, .inl f1, .inl f2, .inl f3, .inl f4, .inl f5, .inl f6]) (F' := [.inl r12.1, .inl f1, .inl f2, .inl f3, .inl f4, .inl r12.2.1, .inl f6]) (G := [g0, g1, g2]) (G' := [g0, g1, r12.2.2]) (ρ := [0, 2, 3]) (φ := [0, 5]) (ψ := [1, 2]) [some 0, none, none, none, none, some 1, none] [none, some 0, some 1] zyw_M_closesSums zyw_M_readsSum zye_M_readsSum (by decide +kernel) (zt_M_closesSums hr12) ⟨⟨_, rfl, fun _ => rfl⟩, ⟨_, rfl, fun _ => rfl⟩, trivial⟩ ⟨rfl, rfl, trivial⟩ rfl rfl rfl rfl rfl rfl rfl) zd220_38 zxt228 rfl (by decide) (by decide) rfl ?_
          refine zv_ald hB zd220_41 rfl rfl rfl ?_
          refine zv_getr hB zd220_42 rfl ?_
          refine zv_ald hB zd220_45 rfl rfl rfl ?_
          refine zv_getf hB zd220_46 rfl rfl (fun _ _ => ?_)
          refine zv_con (n := 1048576) hB zd220_49 (by decide +kernel) ?_
          refine zv_ild hB zd220_51 rfl rfl ?_
          refine zv_mulw hB zd220_52 ?_
          obtain ⟨c13, h⟩ := zi_if h
          refine zv_iast hB zd220_53 rfl rfl (zi_ix_ok c13).1 (zi_ix_ok c13).2 ?_
          refine zv_ald hB zd220_54 rfl rfl rfl ?_
          refine zv_ald hB zd220_55 rfl rfl rfl ?_
          refine zv_getf hB zd220_56 rfl rfl (fun _ _ => ?_)
          refine zv_con hB zd220_59 rfl ?_
          refine zv_addw hB zd220_60 ?_
          refine zv_putf hB zd220_61 rfl rfl (fun h => by cases h) rfl ?_
          refine zv_ald hB zd220_64 rfl rfl rfl ?_
          refine zv_ald hB zd220_65 rfl rfl rfl ?_
          refine zv_getf hB zd220_66 rfl rfl (fun _ _ => ?_)
          refine zv_con hB zd220_69 rfl ?_
          refine zv_addw hB zd220_70 ?_
          refine zv_putf hB zd220_71 rfl rfl (fun h => by cases h) rfl ?_
          refine zv_ald hB zd220_74 rfl rfl rfl ?_
          obtain ⟨r14, hr14, h⟩ := zi_bind h
          refine zv_cv hB (zv_emq (va2 := [.inr 0]) (F := [.inl (zi_w (r12.1 + 1)), .inl (zi_w (f1 + 1)), .inl f2, .inl f3, .inl f4, .inl r12.2.1, .inl f6]) (F' := [.inl r14.2.2.2.1, .inl r14.2.1, .inl f2, .inl r14.2.2.1, .inl r14.2.2.2.2.1, .inl r14.2.2.2.2.2.1, .inl r14.2.2.2.2.2.2.1]) (G := [g0, (zv_up g1 r12.1 (zi_w (1048576 * r4))), r12.2.2]) (G' := [g0, r14.2.2.2.2.2.2.2.1, r14.2.2.2.2.2.2.2.2]) (ρ := [0, 1, 2, 3]) (φ := [1, 2, 3, 0, 4, 5, 6]) (ψ := [0, 1, 2]) [some 3, some 0, some 1, some 2, some 4, some 5, some 6] [some 0, some 1, some 2] zyw_M_readsFactor zyw_M_readsSum zye_M_readsSum (by decide +kernel) (zt_M_readsFactor hr14) ⟨⟨_, rfl, fun _ => rfl⟩, ⟨_, rfl, fun _ => rfl⟩, ⟨_, rfl, fun _ => rfl⟩, ⟨_, rfl, fun _ => rfl⟩, ⟨_, rfl, fun _ => rfl⟩, ⟨_, rfl, fun _ => rfl⟩, ⟨_, rfl, fun _ => rfl⟩, trivial⟩ ⟨rfl, rfl, rfl, trivial⟩ rfl rfl rfl rfl rfl rfl rfl) zd220_75 zxt221 rfl (by decide) (by decide) rfl ?_
          refine zv_zne hB zd220_78 rfl (fun hc15 => ?_) (fun hc15 => ?_)
          · rw [if_neg hc15] at h
            refine zv_goto hB zd220_163 rfl ?_
            refine zv_wk hB (L' := [.inr 0, .inl x1, .inr 1000]) (F' := [.inl r14.2.2.2.1, .inl r14.2.1, .inl f2, .inl r14.2.2.1, .inl r14.2.2.2.2.1, .inl r14.2.2.2.2.2.1, .inl r14.2.2.2.2.2.2.1]) ⟨fun _ => rfl, fun _ => rfl, fun (h : zv_is (.inr 1000)) => (Nat.lt_irrefl 1000 h).elim, trivial⟩ ⟨fun _ => rfl, fun _ => rfl, fun _ => rfl, fun _ => rfl, fun _ => rfl, fun _ => rfl, fun _ => rfl, trivial⟩ ?_
            exact ih _ _ _ _ _ _ _ _ _ q h hK
          · rw [if_pos hc15] at h
            refine zv_con hB zd220_81 rfl ?_
            have hw : (0, r14.2.2.2.1, r14.2.1, r14.2.2.1, r14.2.2.2.2.1, r14.2.2.2.2.2.1, r14.2.2.2.2.2.2.1, r14.2.2.2.2.2.2.2.1, r14.2.2.2.2.2.2.2.2) = o := zi_rk (Option.some.inj h) hK
            subst hw
            exact hret _ _ _ _ _ zd220_82 (by constructor <;> decide) ⟨rfl, rfl, rfl⟩
        · rw [if_pos hc11] at h
          refine zv_con hB zd220_33 rfl ?_
          refine zv_goto hB zd220_34 rfl ?_
          obtain ⟨r16, hr16, h⟩ := zi_bind h
          refine zv_cv hB (zv_emq (va2 := [.inr 0, .inl 1]) (F := [.inl f0, .inl f1, .inl f2, .inl f3, .inl f4, .inl f5, .inl f6]) (F' := [.inl r16.1, .inl f1, .inl f2, .inl f3, .inl f4, .inl r16.2.1, .inl f6]) (G := [g0, g1, g2]) (G' := [g0, g1, r16.2.2]) (ρ := [0, 2, 3]) (φ := [0, 5]) (ψ := [1, 2]) [some 0, none, none, none, none, some 1, none] [none, some 0, some 1] zyw_M_closesSums zyw_M_readsSum zye_M_readsSum (by decide +kernel) (zt_M_closesSums hr16) ⟨⟨_, rfl, fun _ => rfl⟩, ⟨_, rfl, fun _ => rfl⟩, trivial⟩ ⟨rfl, rfl, trivial⟩ rfl rfl rfl rfl rfl rfl rfl) zd220_38 zxt228 rfl (by decide) (by decide) rfl ?_
          refine zv_ald hB zd220_41 rfl rfl rfl ?_
          refine zv_getr hB zd220_42 rfl ?_
          refine zv_ald hB zd220_45 rfl rfl rfl ?_
          refine zv_getf hB zd220_46 rfl rfl (fun _ _ => ?_)
          refine zv_con (n := 1048576) hB zd220_49 (by decide +kernel) ?_
          refine zv_ild hB zd220_51 rfl rfl ?_
          refine zv_mulw hB zd220_52 ?_
          obtain ⟨c17, h⟩ := zi_if h
          refine zv_iast hB zd220_53 rfl rfl (zi_ix_ok c17).1 (zi_ix_ok c17).2 ?_
          refine zv_ald hB zd220_54 rfl rfl rfl ?_
          refine zv_ald hB zd220_55 rfl rfl rfl ?_
          refine zv_getf hB zd220_56 rfl rfl (fun _ _ => ?_)
          refine zv_con hB zd220_59 rfl ?_
          refine zv_addw hB zd220_60 ?_
          refine zv_putf hB zd220_61 rfl rfl (fun h => by cases h) rfl ?_
          refine zv_ald hB zd220_64 rfl rfl rfl ?_
          refine zv_ald hB zd220_65 rfl rfl rfl ?_
          refine zv_getf hB zd220_66 rfl rfl (fun _ _ => ?_)
          refine zv_con hB zd220_69 rfl ?_
          refine zv_addw hB zd220_70 ?_
          refine zv_putf hB zd220_71 rfl rfl (fun h => by cases h) rfl ?_
          refine zv_ald hB zd220_74 rfl rfl rfl ?_
          obtain ⟨r18, hr18, h⟩ := zi_bind h
          refine zv_cv hB (zv_emq (va2 := [.inr 0]) (F := [.inl (zi_w (r16.1 + 1)), .inl (zi_w (f1 + 1)), .inl f2, .inl f3, .inl f4, .inl r16.2.1, .inl f6]) (F' := [.inl r18.2.2.2.1, .inl r18.2.1, .inl f2, .inl r18.2.2.1, .inl r18.2.2.2.2.1, .inl r18.2.2.2.2.2.1, .inl r18.2.2.2.2.2.2.1]) (G := [g0, (zv_up g1 r16.1 (zi_w (1048576 * r4))), r16.2.2]) (G' := [g0, r18.2.2.2.2.2.2.2.1, r18.2.2.2.2.2.2.2.2]) (ρ := [0, 1, 2, 3]) (φ := [1, 2, 3, 0, 4, 5, 6]) (ψ := [0, 1, 2]) [some 3, some 0, some 1, some 2, some 4, some 5, some 6] [some 0, some 1, some 2] zyw_M_readsFactor zyw_M_readsSum zye_M_readsSum (by decide +kernel) (zt_M_readsFactor hr18) ⟨⟨_, rfl, fun _ => rfl⟩, ⟨_, rfl, fun _ => rfl⟩, ⟨_, rfl, fun _ => rfl⟩, ⟨_, rfl, fun _ => rfl⟩, ⟨_, rfl, fun _ => rfl⟩, ⟨_, rfl, fun _ => rfl⟩, ⟨_, rfl, fun _ => rfl⟩, trivial⟩ ⟨rfl, rfl, rfl, trivial⟩ rfl rfl rfl rfl rfl rfl rfl) zd220_75 zxt221 rfl (by decide) (by decide) rfl ?_
          refine zv_zne hB zd220_78 rfl (fun hc19 => ?_) (fun hc19 => ?_)
          · rw [if_neg hc19] at h
            refine zv_goto hB zd220_163 rfl ?_
            refine zv_wk hB (L' := [.inr 0, .inl x1, .inr 1000]) (F' := [.inl r18.2.2.2.1, .inl r18.2.1, .inl f2, .inl r18.2.2.1, .inl r18.2.2.2.2.1, .inl r18.2.2.2.2.2.1, .inl r18.2.2.2.2.2.2.1]) ⟨fun _ => rfl, fun _ => rfl, fun (h : zv_is (.inr 1000)) => (Nat.lt_irrefl 1000 h).elim, trivial⟩ ⟨fun _ => rfl, fun _ => rfl, fun _ => rfl, fun _ => rfl, fun _ => rfl, fun _ => rfl, fun _ => rfl, trivial⟩ ?_
            exact ih _ _ _ _ _ _ _ _ _ q h hK
          · rw [if_pos hc19] at h
            refine zv_con hB zd220_81 rfl ?_
            have hw : (0, r18.2.2.2.1, r18.2.1, r18.2.2.1, r18.2.2.2.2.1, r18.2.2.2.2.2.1, r18.2.2.2.2.2.2.1, r18.2.2.2.2.2.2.2.1, r18.2.2.2.2.2.2.2.2) = o := zi_rk (Option.some.inj h) hK
            subst hw
            exact hret _ _ _ _ _ zd220_82 (by constructor <;> decide) ⟨rfl, rfl, rfl⟩
  unfold zf_M_readsSum at h
  refine zv_ald hB zd220_0 rfl rfl rfl ?_
  refine zv_getf hB zd220_1 rfl rfl (fun _ _ => ?_)
  refine zv_ist hB zd220_4 rfl rfl rfl ?_
  refine zv_ald hB zd220_5 rfl rfl rfl ?_
  obtain ⟨r1, hr1, h⟩ := zi_bind h
  refine zv_cv hB (zv_emq (va2 := [.inr 0]) (F := [.inl f0, .inl f1, .inl f2, .inl f3, .inl f4, .inl f5, .inl f6]) (F' := [.inl r1.2.2.2.1, .inl r1.2.1, .inl f2, .inl r1.2.2.1, .inl r1.2.2.2.2.1, .inl r1.2.2.2.2.2.1, .inl r1.2.2.2.2.2.2.1]) (G := [g0, g1, g2]) (G' := [g0, r1.2.2.2.2.2.2.2.1, r1.2.2.2.2.2.2.2.2]) (ρ := [0, 1, 2, 3]) (φ := [1, 2, 3, 0, 4, 5, 6]) (ψ := [0, 1, 2]) [some 3, some 0, some 1, some 2, some 4, some 5, some 6] [some 0, some 1, some 2] zyw_M_readsFactor zyw_M_readsSum zye_M_readsSum (by decide +kernel) (zt_M_readsFactor hr1) ⟨⟨_, rfl, fun _ => rfl⟩, ⟨_, rfl, fun _ => rfl⟩, ⟨_, rfl, fun _ => rfl⟩, ⟨_, rfl, fun _ => rfl⟩, ⟨_, rfl, fun _ => rfl⟩, ⟨_, rfl, fun _ => rfl⟩, ⟨_, rfl, fun _ => rfl⟩, trivial⟩ ⟨rfl, rfl, rfl, trivial⟩ rfl rfl rfl rfl rfl rfl rfl) zd220_6 zxt221 rfl (by decide) (by decide) rfl ?_
  refine zv_zne hB zd220_9 rfl (fun hc2 => ?_) (fun hc2 => ?_)
  · rw [if_neg hc2] at h
    obtain ⟨q20, hq20, h⟩ := zi_bind h
    refine l0 _ _ _ _ _ _ _ _ _ _ q20 hq20 ?_
    rcases q20 with e21 | w27
    · replace h := zi_sl h
      show good 138 [.inr 0, .inl f0, .inr 1000] [] [.inl e21.1, .inl e21.2.1, .inl f2, .inl e21.2.2.1, .inl e21.2.2.2.1, .inl e21.2.2.2.2.1, .inl e21.2.2.2.2.2.1] [g0, e21.2.2.2.2.2.2.1, e21.2.2.2.2.2.2.2]
      refine zv_ald hB zd220_138 rfl rfl rfl ?_
      refine zv_ild hB zd220_139 rfl rfl ?_
      obtain ⟨r22, hr22, h⟩ := zi_bind h
      refine zv_cv hB (zv_emq (va2 := [.inr 0, .inl f0]) (F := [.inl e21.1, .inl e21.2.1, .inl f2, .inl e21.2.2.1, .inl e21.2.2.2.1, .inl e21.2.2.2.2.1, .inl e21.2.2.2.2.2.1]) (F' := [.inl e21.1, .inl e21.2.1, .inl f2, .inl e21.2.2.1, .inl e21.2.2.2.1, .inl e21.2.2.2.2.1, .inl e21.2.2.2.2.2.1]) (G := [g0, e21.2.2.2.2.2.2.1, e21.2.2.2.2.2.2.2]) (G' := [g0, e21.2.2.2.2.2.2.1, e21.2.2.2.2.2.2.2]) (ρ := [0, 2]) (φ := [0]) (ψ := [1]) [some 0, none, none, none, none, none, none] [none, some 0, none] zyw_M_hasOpenSum zyw_M_readsSum zye_M_readsSum (by decide +kernel) (zt_M_hasOpenSum hr22) ⟨⟨_, rfl, fun _ => rfl⟩, trivial⟩ ⟨rfl, trivial⟩ rfl rfl rfl rfl rfl rfl rfl) zd220_140 zxt230 rfl (by decide) (by decide) rfl ?_
      refine zv_zeq hB zd220_143 rfl (fun hc23 => ?_) (fun hc23 => ?_)
      · rw [if_pos hc23] at h
        refine zv_ald hB zd220_156 rfl rfl rfl ?_
        refine zv_con hB zd220_157 rfl ?_
        obtain ⟨r24, hr24, h⟩ := zi_bind h
        refine zv_cv hB (zv_emq (va2 := [.inr 0, .inl 1]) (F := [.inl e21.1, .inl e21.2.1, .inl f2, .inl e21.2.2.1, .inl e21.2.2.2.1, .inl e21.2.2.2.2.1, .inl e21.2.2.2.2.2.1]) (F' := [.inl r24.1, .inl e21.2.1, .inl f2, .inl e21.2.2.1, .inl e21.2.2.2.1, .inl r24.2.1, .inl e21.2.2.2.2.2.1]) (G := [g0, e21.2.2.2.2.2.2.1, e21.2.2.2.2.2.2.2]) (G' := [g0, e21.2.2.2.2.2.2.1, r24.2.2]) (ρ := [0, 2, 3]) (φ := [0, 5]) (ψ := [1, 2]) [some 0, none, none, none, none, some 1, none] [none, some 0, some 1] zyw_M_closesSums zyw_M_readsSum zye_M_readsSum (by decide +kernel) (zt_M_closesSums hr24) ⟨⟨_, rfl, fun _ => rfl⟩, ⟨_, rfl, fun _ => rfl⟩, trivial⟩ ⟨rfl, rfl, trivial⟩ rfl rfl rfl rfl rfl rfl rfl) zd220_158 zxt228 rfl (by decide) (by decide) rfl ?_
        refine zv_con hB zd220_161 rfl ?_
        have hw := Option.some.inj h
        subst hw
        exact hret _ _ _ _ _ zd220_162 (by constructor <;> decide) ⟨rfl, rfl, rfl⟩
      · rw [if_neg hc23] at h
        refine zv_ald hB zd220_146 rfl rfl rfl ?_
        refine zv_con hB zd220_147 rfl ?_
        refine zv_ald hB zd220_148 rfl rfl rfl ?_
        refine zv_getf hB zd220_149 rfl rfl (fun _ _ => ?_)
        obtain ⟨r25, hr25, h⟩ := zi_bind h
        refine zv_cv hB (zv_emq (va2 := [.inr 0, .inl 1, .inl e21.2.1]) (F := [.inl e21.1, .inl e21.2.1, .inl f2, .inl e21.2.2.1, .inl e21.2.2.2.1, .inl e21.2.2.2.2.1, .inl e21.2.2.2.2.2.1]) (F' := [.inl e21.1, .inl e21.2.1, .inl f2, .inl e21.2.2.1, .inl r25.2, .inl e21.2.2.2.2.1, .inl e21.2.2.2.2.2.1]) (G := [g0, e21.2.2.2.2.2.2.1, e21.2.2.2.2.2.2.2]) (G' := [g0, e21.2.2.2.2.2.2.1, e21.2.2.2.2.2.2.2]) (ρ := [0]) (φ := [4]) (ψ := []) [none, none, none, none, some 0, none, none] [none, none, none] zyw_M_wrongAt zyw_M_readsSum zye_M_readsSum (by decide +kernel) (zt_M_wrongAt hr25) ⟨⟨_, rfl, fun _ => rfl⟩, trivial⟩ trivial rfl rfl rfl rfl rfl rfl rfl) zd220_152 zxt219 rfl (by decide) (by decide) rfl ?_
        obtain ⟨c26, h⟩ := zi_if h
        have hw := Option.some.inj h
        subst hw
        exact hret _ _ _ _ _ zd220_155 (zi_bo_ok c26) ⟨rfl, rfl, rfl⟩
    · exact Option.some.inj h
  · rw [if_pos hc2] at h
    refine zv_con hB zd220_12 rfl ?_
    have hw := Option.some.inj h
    subst hw
    exact hret _ _ _ _ _ zd220_13 (by constructor <;> decide) ⟨rfl, rfl, rfl⟩
/-! M_endsPiece ()V -/
-- names: 0 StarTalesModel('arg', 0), 1 (0, 220)(0, 12, 15), 2 (0, 220)(0, 12, 14)
-- fields: f0 = 0.waiting_, f1 = 0.codeMany_, f2 = 0.open_; arrays: g0 = 1, g1 = 2; out: [('f', 0), ('f', 1), ('f', 2), ('g', 1)]
abbrev zy_M_endsPiece : zNL := (3, [(0, 12)], [(0, 12, 10, 0), (0, 12, 9, 1), (0, 12, 8, 2)], [(0, 12, 15, 1), (0, 12, 14, 2)], [(1, 0, 220, 0), (2, 0, 220, 1)])
theorem zyw_M_endsPiece : zv_wf zy_M_endsPiece = true := by decide +kernel
theorem zye_M_endsPiece : zv_ek2 zy_M_endsPiece = true := by decide +kernel
def zf_M_endsPiece_l0_b (g0 : (Int → Int)) (rec : Int → Int → Int → (Int → Int) → Option (Int × Int × Int × (Int → Int))) (f0 : Int) (f1 : Int) (f2 : Int) (g1 : (Int → Int)) : Option (Int × Int × Int × (Int → Int)) := (zf_M_waitTop f0 g0).bind fun r1 => (if r1 = 10 then ((zf_M_notes 10 0 f1 g1).bind fun r3 => (rec (zi_w (f0 - 1)) r3.1 (zi_w (f2 - 1)) r3.2)) else (some (f0, f1, f2, g1)))
def zf_M_endsPiece_l0 (g0 : (Int → Int)) : Nat → Int → Int → Int → (Int → Int) → Option (Int × Int × Int × (Int → Int))
  | 0, _, _, _, _ => none
  | n + 1, f0, f1, f2, g1 => zf_M_endsPiece_l0_b g0 (zf_M_endsPiece_l0 g0 n) f0 f1 f2 g1
def zf_M_endsPiece (f0 : Int) (f1 : Int) (f2 : Int) (g0 : (Int → Int)) (g1 : (Int → Int)) : Option (Int × Int × Int × (Int → Int)) := (zf_M_endsPiece_l0 g0 zi_fu f0 f1 f2 g1).bind fun q4 => (some (q4.1, q4.2.1, q4.2.2.1, q4.2.2.2))
theorem zd233_0 : decode zxm233.2.1 0 = .ok (.aload_n 0, 1) := by decide +kernel
theorem zd233_1 : decode zxm233.2.1 1 = .ok (.invokevirtual 209, 3) := by decide +kernel
theorem zd233_4 : decode zxm233.2.1 4 = .ok (.bipush 10, 2) := by decide +kernel
theorem zd233_6 : decode zxm233.2.1 6 = .ok (.if_icmp .ne 33, 3) := by decide +kernel
theorem zd233_9 : decode zxm233.2.1 9 = .ok (.aload_n 0, 1) := by decide +kernel
theorem zd233_10 : decode zxm233.2.1 10 = .ok (.bipush 10, 2) := by decide +kernel
theorem zd233_12 : decode zxm233.2.1 12 = .ok (.iconst 0, 1) := by decide +kernel
theorem zd233_13 : decode zxm233.2.1 13 = .ok (.invokevirtual 212, 3) := by decide +kernel
theorem zd233_16 : decode zxm233.2.1 16 = .ok (.aload_n 0, 1) := by decide +kernel
theorem zd233_17 : decode zxm233.2.1 17 = .ok (.aload_n 0, 1) := by decide +kernel
theorem zd233_18 : decode zxm233.2.1 18 = .ok (.getfield 206, 3) := by decide +kernel
theorem zd233_21 : decode zxm233.2.1 21 = .ok (.iconst 1, 1) := by decide +kernel
theorem zd233_22 : decode zxm233.2.1 22 = .ok (.isub, 1) := by decide +kernel
theorem zd233_23 : decode zxm233.2.1 23 = .ok (.putfield 206, 3) := by decide +kernel
theorem zd233_26 : decode zxm233.2.1 26 = .ok (.aload_n 0, 1) := by decide +kernel
theorem zd233_27 : decode zxm233.2.1 27 = .ok (.aload_n 0, 1) := by decide +kernel
theorem zd233_28 : decode zxm233.2.1 28 = .ok (.getfield 203, 3) := by decide +kernel
theorem zd233_31 : decode zxm233.2.1 31 = .ok (.iconst 1, 1) := by decide +kernel
theorem zd233_32 : decode zxm233.2.1 32 = .ok (.isub, 1) := by decide +kernel
theorem zd233_33 : decode zxm233.2.1 33 = .ok (.putfield 203, 3) := by decide +kernel
theorem zd233_36 : decode zxm233.2.1 36 = .ok (.goto (-36), 3) := by decide +kernel
theorem zd233_39 : decode zxm233.2.1 39 = .ok (.return_, 1) := by decide +kernel
theorem zt_M_endsPiece {f0 : Int} {f1 : Int} {f2 : Int} {g0 : (Int → Int)} {g1 : (Int → Int)} {o : Int × Int × Int × (Int → Int)} (h : zf_M_endsPiece f0 f1 f2 g0 g1 = some o) : zv_Fn z_TB z_cl z_KX zy_M_endsPiece zxm233 (1, 60) [.inr 0] [.inl f0, .inl f1, .inl f2] [g0, g1] none [.inl o.1, .inl o.2.1, .inl o.2.2.1] [g0, o.2.2.2] := zv_meth (K := (z_KF13, z_KC13, z_KL13, z_KT13, [], [], [], none)) (FT := z_FT) (MT := z_MT) (n := 1) zxp233 (z_ks13 _ (fun _ h => List.mem_cons_of_mem _ h) _ _ _ _ (fun j r h _ => by cases h)) (fun _ _ => zs_KX_p) zyw_M_endsPiece (fun va F G h => by obtain ⟨rfl, _⟩ := h; rfl) (fun va F G h => by obtain ⟨rfl, _⟩ := h; rfl) rfl fun good va F G hB hret hvret hP => by
  obtain ⟨rfl, rfl, rfl⟩ := hP
  have l0 : ∀ (n : Nat) (f0 : Int) (f1 : Int) (f2 : Int) (g1 : (Int → Int)) (q : Int × Int × Int × (Int → Int)), zf_M_endsPiece_l0 g0 n f0 f1 f2 g1 = some q → (good 39 [.inr 1000] [] [.inl q.1, .inl q.2.1, .inl q.2.2.1] [g0, q.2.2.2]) → good 0 [.inr 0] [] [.inl f0, .inl f1, .inl f2] [g0, g1] := by
    intro n
    induction n with
    | zero => intro f0 f1 f2 g1 q h; exact absurd (show none = some q from h) (fun h => by cases h)
    | succ n ih =>
      intro f0 f1 f2 g1 q h hK
      replace h : zf_M_endsPiece_l0_b g0 (zf_M_endsPiece_l0 g0 n) f0 f1 f2 g1 = some q := h
      unfold zf_M_endsPiece_l0_b at h
      refine zv_ald hB zd233_0 rfl rfl rfl ?_
      obtain ⟨r1, hr1, h⟩ := zi_bind h
      refine zv_cv hB (zv_emq (va2 := [.inr 0]) (F := [.inl f0, .inl f1, .inl f2]) (F' := [.inl f0, .inl f1, .inl f2]) (G := [g0, g1]) (G' := [g0, g1]) (ρ := [0, 1]) (φ := [0]) (ψ := [0]) [some 0, none, none] [some 0, none] zyw_M_waitTop zyw_M_endsPiece zye_M_endsPiece (by decide +kernel) (zt_M_waitTop hr1) ⟨⟨_, rfl, fun _ => rfl⟩, trivial⟩ ⟨rfl, trivial⟩ rfl rfl rfl rfl rfl rfl rfl) zd233_1 zxt229 rfl (by decide) (by decide) rfl ?_
      refine zv_con hB zd233_4 rfl ?_
      refine zv_cne hB zd233_6 rfl (fun hc2 => ?_) (fun hc2 => ?_)
      · rw [if_neg hc2] at h
        have hq := Option.some.inj h
        subst hq
        refine zv_wk hB (L' := [.inr 1000]) (F' := [.inl f0, .inl f1, .inl f2]) ⟨fun (h : zv_is (.inr 1000)) => (Nat.lt_irrefl 1000 h).elim, trivial⟩ ⟨fun _ => rfl, fun _ => rfl, fun _ => rfl, trivial⟩ ?_
        exact hK
      · rw [if_pos hc2] at h
        refine zv_ald hB zd233_9 rfl rfl rfl ?_
        refine zv_con hB zd233_10 rfl ?_
        refine zv_con hB zd233_12 rfl ?_
        obtain ⟨r3, hr3, h⟩ := zi_bind h
        refine zv_cv hB (zv_emq (va2 := [.inr 0, .inl 10, .inl 0]) (F := [.inl f0, .inl f1, .inl f2]) (F' := [.inl f0, .inl r3.1, .inl f2]) (G := [g0, g1]) (G' := [g0, r3.2]) (ρ := [0, 2]) (φ := [1]) (ψ := [1]) [none, some 0, none] [none, some 0] zyw_M_notes zyw_M_endsPiece zye_M_endsPiece (by decide +kernel) (zt_M_notes hr3) ⟨⟨_, rfl, fun _ => rfl⟩, trivial⟩ ⟨rfl, trivial⟩ rfl rfl rfl rfl rfl rfl rfl) zd233_13 zxt225 rfl (by decide) (by decide) rfl ?_
        refine zv_ald hB zd233_16 rfl rfl rfl ?_
        refine zv_ald hB zd233_17 rfl rfl rfl ?_
        refine zv_getf hB zd233_18 rfl rfl (fun _ _ => ?_)
        refine zv_con hB zd233_21 rfl ?_
        refine zv_subw hB zd233_22 ?_
        refine zv_putf hB zd233_23 rfl rfl (fun h => by cases h) rfl ?_
        refine zv_ald hB zd233_26 rfl rfl rfl ?_
        refine zv_ald hB zd233_27 rfl rfl rfl ?_
        refine zv_getf hB zd233_28 rfl rfl (fun _ _ => ?_)
        refine zv_con hB zd233_31 rfl ?_
        refine zv_subw hB zd233_32 ?_
        refine zv_putf hB zd233_33 rfl rfl (fun h => by cases h) rfl ?_
        refine zv_goto hB zd233_36 rfl ?_
        exact ih _ _ _ _ q h hK
  unfold zf_M_endsPiece at h
  obtain ⟨q4, hq4, h⟩ := zi_bind h
  refine l0 _ _ _ _ _ q4 hq4 ?_
  show good 39 [.inr 1000] [] [.inl q4.1, .inl q4.2.1, .inl q4.2.2.1] [g0, q4.2.2.2]
  have hw := Option.some.inj h
  subst hw
  exact hvret _ _ _ _ zd233_39 trivial ⟨rfl, rfl, rfl⟩
