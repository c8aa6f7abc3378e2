/-! Methods as functions, and that they do what these do. -/
/-! X_found ()I -/
-- names: 0 StarTales('arg', 0), 1 Sky(0, 0, 0), 2 Tape(0, 0, 6), 3 (0, 220)(2, 3, 0), 4 (0, 24)(1, 1, 1), 5 (0, 24)(1, 1, 4), 6 (0, 24)(1, 1, 2), 7 (0, 24)(1, 1, 5)
-- fields: f0 = 1.told_, f1 = 2.size_; arrays: g0 = 3, g1 = 4, g2 = 5, g3 = 6, g4 = 7; out: [('ret', None), ('f', 1)]
abbrev zy_X_found : zNL := (8, [(0, 0), (1, 1), (2, 3)], [(1, 1, 0, 0), (2, 3, 1, 1)], [(0, 0, 0, 1), (0, 0, 6, 2), (2, 3, 0, 3), (1, 1, 1, 4), (1, 1, 4, 5), (1, 1, 2, 6), (1, 1, 5, 7)], [(3, 0, 220, 0), (4, 0, 24, 1), (5, 0, 24, 2), (6, 0, 24, 3), (7, 0, 24, 4)])
theorem zyw_X_found : zv_wf zy_X_found = true := by decide +kernel
theorem zye_X_found : zv_ek2 zy_X_found = true := by decide +kernel
def zf_X_found_l0_b (f0 : Int) (g0 : (Int → Int)) (g1 : (Int → Int)) (g2 : (Int → Int)) (g3 : (Int → Int)) (g4 : (Int → Int)) (rec : Int → Int → Int → Option (Int)) (x1 : Int) (x2 : Int) (x3 : Int) : Option (Int) := if x3 < 24 then ((zf_Sky_hasStar x3 f0).bind fun r6 => (if r6 = 0 then (rec x1 x2 (zi_w (x3 + 1))) else ((zf_Tape_byteAt x2 g0).bind fun r8 => ((zf_Sky_columnNextNight x3 g1 g2).bind fun r9 => (if r8 = r9 then ((zf_Tape_byteAt (zi_w (x2 + 1)) g0).bind fun r12 => ((zf_Sky_rowNextNight x3 g3 g4).bind fun r13 => (if r12 = r13 then (rec x1 (zi_w (x2 + 2)) (zi_w (x3 + 1))) else (rec (zi_or x1 (zi_shl 1 x3)) (zi_w (x2 + 2)) (zi_w (x3 + 1)))))) else (rec (zi_or x1 (zi_shl 1 x3)) (zi_w (x2 + 2)) (zi_w (x3 + 1)))))))) else (some x1)
def zf_X_found_l0 (f0 : Int) (g0 : (Int → Int)) (g1 : (Int → Int)) (g2 : (Int → Int)) (g3 : (Int → Int)) (g4 : (Int → Int)) : Nat → Int → Int → Int → Option (Int)
  | 0, _, _, _ => none
  | n + 1, x1, x2, x3 => zf_X_found_l0_b f0 g0 g1 g2 g3 g4 (zf_X_found_l0 f0 g0 g1 g2 g3 g4 n) x1 x2 x3
def zf_X_found (f0 : Int) (f1 : Int) (g0 : (Int → Int)) (g1 : (Int → Int)) (g2 : (Int → Int)) (g3 : (Int → Int)) (g4 : (Int → Int)) : Option (Int × Int) := if f0 = 0 then (some ((-1), f1)) else ((zf_Integer_bitCount f0).bind fun r2 => ((zf_Tape_take (zi_w (2 * r2)) f1).bind fun r3 => (if r3.1 = 0 then (some ((-1), r3.2)) else ((zf_X_found_l0 f0 g0 g1 g2 g3 g4 zi_fu 0 0 0).bind fun q17 => (some (q17, r3.2))))))
theorem zd160_0 : decode zxm160.2.1 0 = .ok (.aload_n 0, 1) := by decide +kernel
theorem zd160_1 : decode zxm160.2.1 1 = .ok (.getfield 10, 3) := by decide +kernel
theorem zd160_4 : decode zxm160.2.1 4 = .ok (.getfield 134, 3) := by decide +kernel
theorem zd160_7 : decode zxm160.2.1 7 = .ok (.ifCond .eq 25, 3) := by decide +kernel
theorem zd160_10 : decode zxm160.2.1 10 = .ok (.aload_n 0, 1) := by decide +kernel
theorem zd160_11 : decode zxm160.2.1 11 = .ok (.getfield 39, 3) := by decide +kernel
theorem zd160_14 : decode zxm160.2.1 14 = .ok (.iconst 2, 1) := by decide +kernel
theorem zd160_15 : decode zxm160.2.1 15 = .ok (.aload_n 0, 1) := by decide +kernel
theorem zd160_16 : decode zxm160.2.1 16 = .ok (.getfield 10, 3) := by decide +kernel
theorem zd160_19 : decode zxm160.2.1 19 = .ok (.getfield 134, 3) := by decide +kernel
theorem zd160_22 : decode zxm160.2.1 22 = .ok (.invokestatic 235, 3) := by decide +kernel
theorem zd160_25 : decode zxm160.2.1 25 = .ok (.imul, 1) := by decide +kernel
theorem zd160_26 : decode zxm160.2.1 26 = .ok (.invokevirtual 197, 3) := by decide +kernel
theorem zd160_29 : decode zxm160.2.1 29 = .ok (.ifCond .ne 5, 3) := by decide +kernel
theorem zd160_32 : decode zxm160.2.1 32 = .ok (.iconst (-1), 1) := by decide +kernel
theorem zd160_33 : decode zxm160.2.1 33 = .ok (.ireturn, 1) := by decide +kernel
theorem zd160_34 : decode zxm160.2.1 34 = .ok (.iconst 0, 1) := by decide +kernel
theorem zd160_35 : decode zxm160.2.1 35 = .ok (.istore_n 1, 1) := by decide +kernel
theorem zd160_36 : decode zxm160.2.1 36 = .ok (.iconst 0, 1) := by decide +kernel
theorem zd160_37 : decode zxm160.2.1 37 = .ok (.istore_n 2, 1) := by decide +kernel
theorem zd160_38 : decode zxm160.2.1 38 = .ok (.iconst 0, 1) := by decide +kernel
theorem zd160_39 : decode zxm160.2.1 39 = .ok (.istore_n 3, 1) := by decide +kernel
theorem zd160_40 : decode zxm160.2.1 40 = .ok (.iload_n 3, 1) := by decide +kernel
theorem zd160_41 : decode zxm160.2.1 41 = .ok (.bipush 24, 2) := by decide +kernel
theorem zd160_43 : decode zxm160.2.1 43 = .ok (.if_icmp .ge 81, 3) := by decide +kernel
theorem zd160_46 : decode zxm160.2.1 46 = .ok (.aload_n 0, 1) := by decide +kernel
theorem zd160_47 : decode zxm160.2.1 47 = .ok (.getfield 10, 3) := by decide +kernel
theorem zd160_50 : decode zxm160.2.1 50 = .ok (.iload_n 3, 1) := by decide +kernel
theorem zd160_51 : decode zxm160.2.1 51 = .ok (.invokevirtual 153, 3) := by decide +kernel
theorem zd160_54 : decode zxm160.2.1 54 = .ok (.ifCond .eq 64, 3) := by decide +kernel
theorem zd160_57 : decode zxm160.2.1 57 = .ok (.aload_n 0, 1) := by decide +kernel
theorem zd160_58 : decode zxm160.2.1 58 = .ok (.getfield 39, 3) := by decide +kernel
theorem zd160_61 : decode zxm160.2.1 61 = .ok (.iload_n 2, 1) := by decide +kernel
theorem zd160_62 : decode zxm160.2.1 62 = .ok (.invokevirtual 303, 3) := by decide +kernel
theorem zd160_65 : decode zxm160.2.1 65 = .ok (.aload_n 0, 1) := by decide +kernel
theorem zd160_66 : decode zxm160.2.1 66 = .ok (.getfield 10, 3) := by decide +kernel
theorem zd160_69 : decode zxm160.2.1 69 = .ok (.iload_n 3, 1) := by decide +kernel
theorem zd160_70 : decode zxm160.2.1 70 = .ok (.invokevirtual 340, 3) := by decide +kernel
theorem zd160_73 : decode zxm160.2.1 73 = .ok (.if_icmp .ne 28, 3) := by decide +kernel
theorem zd160_76 : decode zxm160.2.1 76 = .ok (.aload_n 0, 1) := by decide +kernel
theorem zd160_77 : decode zxm160.2.1 77 = .ok (.getfield 39, 3) := by decide +kernel
theorem zd160_80 : decode zxm160.2.1 80 = .ok (.iload_n 2, 1) := by decide +kernel
theorem zd160_81 : decode zxm160.2.1 81 = .ok (.iconst 1, 1) := by decide +kernel
theorem zd160_82 : decode zxm160.2.1 82 = .ok (.iadd, 1) := by decide +kernel
theorem zd160_83 : decode zxm160.2.1 83 = .ok (.invokevirtual 303, 3) := by decide +kernel
theorem zd160_86 : decode zxm160.2.1 86 = .ok (.aload_n 0, 1) := by decide +kernel
theorem zd160_87 : decode zxm160.2.1 87 = .ok (.getfield 10, 3) := by decide +kernel
theorem zd160_90 : decode zxm160.2.1 90 = .ok (.iload_n 3, 1) := by decide +kernel
theorem zd160_91 : decode zxm160.2.1 91 = .ok (.invokevirtual 343, 3) := by decide +kernel
theorem zd160_94 : decode zxm160.2.1 94 = .ok (.if_icmp .ne 7, 3) := by decide +kernel
theorem zd160_97 : decode zxm160.2.1 97 = .ok (.iconst 1, 1) := by decide +kernel
theorem zd160_98 : decode zxm160.2.1 98 = .ok (.goto 4, 3) := by decide +kernel
theorem zd160_101 : decode zxm160.2.1 101 = .ok (.iconst 0, 1) := by decide +kernel
theorem zd160_102 : decode zxm160.2.1 102 = .ok (.istore 4, 2) := by decide +kernel
theorem zd160_104 : decode zxm160.2.1 104 = .ok (.iload 4, 2) := by decide +kernel
theorem zd160_106 : decode zxm160.2.1 106 = .ok (.ifCond .ne 9, 3) := by decide +kernel
theorem zd160_109 : decode zxm160.2.1 109 = .ok (.iload_n 1, 1) := by decide +kernel
theorem zd160_110 : decode zxm160.2.1 110 = .ok (.iconst 1, 1) := by decide +kernel
theorem zd160_111 : decode zxm160.2.1 111 = .ok (.iload_n 3, 1) := by decide +kernel
theorem zd160_112 : decode zxm160.2.1 112 = .ok (.ishl, 1) := by decide +kernel
theorem zd160_113 : decode zxm160.2.1 113 = .ok (.ior, 1) := by decide +kernel
theorem zd160_114 : decode zxm160.2.1 114 = .ok (.istore_n 1, 1) := by decide +kernel
theorem zd160_115 : decode zxm160.2.1 115 = .ok (.iinc 2 2, 3) := by decide +kernel
theorem zd160_118 : decode zxm160.2.1 118 = .ok (.iinc 3 1, 3) := by decide +kernel
theorem zd160_121 : decode zxm160.2.1 121 = .ok (.goto (-81), 3) := by decide +kernel
theorem zd160_124 : decode zxm160.2.1 124 = .ok (.iload_n 1, 1) := by decide +kernel
theorem zd160_125 : decode zxm160.2.1 125 = .ok (.ireturn, 1) := by decide +kernel
theorem zt_X_found {f0 : Int} {f1 : Int} {g0 : (Int → Int)} {g1 : (Int → Int)} {g2 : (Int → Int)} {g3 : (Int → Int)} {g4 : (Int → Int)} {o : Int × Int} (h : zf_X_found f0 f1 g0 g1 g2 g3 g4 = some o) : zv_Fn z_TB z_cl z_KX zy_X_found zxm160 (2, 120) [.inr 0] [.inl f0, .inl f1] [g0, g1, g2, g3, g4] (some o.1) [.inl f0, .inl o.2] [g0, g1, g2, g3, g4] := zv_meth (K := (z_KF0, z_KC0, z_KL0, z_KT0, [], [], [], none)) (FT := z_FT) (MT := z_MT) (n := 1) zxp160 (z_ks0 _ (fun _ h => List.mem_cons_of_mem _ h) _ _ _ _ (fun j r h _ => by cases h)) (fun _ _ => zs_KX_p) zyw_X_found (fun va F G h => by obtain ⟨rfl, _⟩ := h; rfl) (fun va F G h => by obtain ⟨rfl, _⟩ := h; rfl) rfl fun good va F G hB hret hvret hP => by
  obtain ⟨rfl, rfl, rfl⟩ := hP
  have l0 : ∀ (n : Nat) (x1 : Int) (x2 : Int) (x3 : Int) (f1 : Int) (q : Int), zf_X_found_l0 f0 g0 g1 g2 g3 g4 n x1 x2 x3 = some q → (good 124 [.inr 1000, .inl q, .inr 1000, .inr 1000, .inr 1000] [] [.inl f0, .inl f1] [g0, g1, g2, g3, g4]) → good 40 [.inr 0, .inl x1, .inl x2, .inl x3, .inr 1000] [] [.inl f0, .inl f1] [g0, g1, g2, g3, g4] := by
    intro n
    induction n with
    | zero => intro x1 x2 x3 f1 q h; exact absurd (show none = some q from h) (fun h => by cases h)
    | succ n ih =>
      intro x1 x2 x3 f1 q h hK
      replace h : zf_X_found_l0_b f0 g0 g1 g2 g3 g4 (zf_X_found_l0 f0 g0 g1 g2 g3 g4 n) x1 x2 x3 = some q := h
      unfold zf_X_found_l0_b at h
      refine zv_ild hB zd160_40 rfl rfl ?_
      refine zv_con hB zd160_41 rfl ?_
      refine zv_cge hB zd160_43 rfl (fun hc5 => ?_) (fun hc5 => ?_)
      · rw [if_neg (Int.not_lt.mpr hc5)] at h
        have hq := Option.some.inj h
        subst hq
        refine zv_wk hB (L' := [.inr 1000, .inl x1, .inr 1000, .inr 1000, .inr 1000]) (F' := [.inl f0, .inl f1]) ⟨fun (h : zv_is (.inr 1000)) => (Nat.lt_irrefl 1000 h).elim, fun _ => rfl, fun (h : zv_is (.inr 1000)) => (Nat.lt_irrefl 1000 h).elim, fun (h : zv_is (.inr 1000)) => (Nat.lt_irrefl 1000 h).elim, fun (h : zv_is (.inr 1000)) => (Nat.lt_irrefl 1000 h).elim, trivial⟩ ⟨fun _ => rfl, fun _ => rfl, trivial⟩ ?_
        exact hK
      · rw [if_pos hc5] at h
        refine zv_ald hB zd160_46 rfl rfl rfl ?_
        refine zv_getr hB zd160_47 rfl ?_
        refine zv_ild hB zd160_50 rfl rfl ?_
        obtain ⟨r6, hr6, h⟩ := zi_bind h
        refine zv_cv hB (zv_emq (va2 := [.inr 1, .inl x3]) (F := [.inl f0, .inl f1]) (F' := [.inl f0, .inl f1]) (G := [g0, g1, g2, g3, g4]) (G' := [g0, g1, g2, g3, g4]) (ρ := [1]) (φ := [0]) (ψ := []) [some 0, none] [none, none, none, none, none] zyw_Sky_hasStar zyw_X_found zye_X_found (by decide +kernel) (zt_Sky_hasStar hr6) ⟨⟨_, rfl, fun _ => rfl⟩, trivial⟩ trivial rfl rfl rfl rfl rfl rfl rfl) zd160_51 zxt18 rfl (by decide) (by decide) rfl ?_
        refine zv_zeq hB zd160_54 rfl (fun hc7 => ?_) (fun hc7 => ?_)
        · rw [if_pos hc7] at h
          refine zv_iincw hB zd160_118 rfl rfl ?_
          refine zv_goto hB zd160_121 rfl ?_
          exact ih _ _ _ _ q h hK
        · rw [if_neg hc7] at h
          refine zv_ald hB zd160_57 rfl rfl rfl ?_
          refine zv_getr hB zd160_58 rfl ?_
          refine zv_ild hB zd160_61 rfl rfl ?_
          obtain ⟨r8, hr8, h⟩ := zi_bind h
          refine zv_cv hB (zv_emq (va2 := [.inr 2, .inl x2]) (F := [.inl f0, .inl f1]) (F' := [.inl f0, .inl f1]) (G := [g0, g1, g2, g3, g4]) (G' := [g0, g1, g2, g3, g4]) (ρ := [2, 3]) (φ := []) (ψ := [0]) [none, none] [some 0, none, none, none, none] zyw_Tape_byteAt zyw_X_found zye_X_found (by decide +kernel) (zt_Tape_byteAt hr8) trivial ⟨rfl, trivial⟩ rfl rfl rfl rfl rfl rfl rfl) zd160_62 zxt138 rfl (by decide) (by decide) rfl ?_
          refine zv_ald hB zd160_65 rfl rfl rfl ?_
          refine zv_getr hB zd160_66 rfl ?_
          refine zv_ild hB zd160_69 rfl rfl ?_
          obtain ⟨r9, hr9, h⟩ := zi_bind h
          refine zv_cv hB (zv_emq (va2 := [.inr 1, .inl x3]) (F := [.inl f0, .inl f1]) (F' := [.inl f0, .inl f1]) (G := [g0, g1, g2, g3, g4]) (G' := [g0, g1, g2, g3, g4]) (ρ := [1, 4, 5]) (φ := []) (ψ := [1, 2]) [none, none] [none, some 0, some 1, none, none] zyw_Sky_columnNextNight zyw_X_found zye_X_found (by decide +kernel) (zt_Sky_columnNextNight hr9) trivial ⟨rfl, rfl, trivial⟩ rfl rfl rfl rfl rfl rfl rfl) zd160_70 zxt157 rfl (by decide) (by decide) rfl ?_
          refine zv_cne hB zd160_73 rfl (fun hc10 => ?_) (fun hc10 => ?_)
          · rw [if_neg hc10] at h
            refine zv_con hB zd160_101 rfl ?_
            refine zv_ist hB zd160_102 rfl rfl rfl ?_
            refine zv_ild hB zd160_104 rfl rfl ?_
            refine zv_zne hB zd160_106 rfl (fun hc => absurd hc (by decide)) (fun _ => ?_)
            refine zv_ild hB zd160_109 rfl rfl ?_
            refine zv_con hB zd160_110 rfl ?_
            refine zv_ild hB zd160_111 rfl rfl ?_
            refine zv_shlw hB zd160_112 ?_
            refine zv_orw hB zd160_113 ?_
            refine zv_ist hB zd160_114 rfl rfl rfl ?_
            refine zv_iincw hB zd160_115 rfl rfl ?_
            refine zv_iincw hB zd160_118 rfl rfl ?_
            refine zv_goto hB zd160_121 rfl ?_
            refine zv_wk hB (L' := [.inr 0, .inl (zi_or x1 (zi_shl 1 x3)), .inl (zi_w (x2 + 2)), .inl (zi_w (x3 + 1)), .inr 1000]) (F' := [.inl f0, .inl f1]) ⟨fun _ => rfl, fun _ => rfl, fun _ => rfl, fun _ => rfl, fun (h : zv_is (.inr 1000)) => (Nat.lt_irrefl 1000 h).elim, trivial⟩ ⟨fun _ => rfl, fun _ => rfl, trivial⟩ ?_
            exact ih _ _ _ _ q h hK
          · rw [if_pos hc10] at h
            refine zv_ald hB zd160_76 rfl rfl rfl ?_
            refine zv_getr hB zd160_77 rfl ?_
            refine zv_ild hB zd160_80 rfl rfl ?_
            refine zv_con hB zd160_81 rfl ?_
            refine zv_addw hB zd160_82 ?_
            obtain ⟨r12, hr12, h⟩ := zi_bind h
            refine zv_cv hB (zv_emq (va2 := [.inr 2, .inl (zi_w (x2 + 1))]) (F := [.inl f0, .inl f1]) (F' := [.inl f0, .inl f1]) (G := [g0, g1, g2, g3, g4]) (G' := [g0, g1, g2, g3, g4]) (ρ := [2, 3]) (φ := []) (ψ := [0]) [none, none] [some 0, none, none, none, none] zyw_Tape_byteAt zyw_X_found zye_X_found (by decide +kernel) (zt_Tape_byteAt hr12) trivial ⟨rfl, trivial⟩ rfl rfl rfl rfl rfl rfl rfl) zd160_83 zxt138 rfl (by decide) (by decide) rfl ?_
            refine zv_ald hB zd160_86 rfl rfl rfl ?_
            refine zv_getr hB zd160_87 rfl ?_
            refine zv_ild hB zd160_90 rfl rfl ?_
            obtain ⟨r13, hr13, h⟩ := zi_bind h
            refine zv_cv hB (zv_emq (va2 := [.inr 1, .inl x3]) (F := [.inl f0, .inl f1]) (F' := [.inl f0, .inl f1]) (G := [g0, g1, g2, g3, g4]) (G' := [g0, g1, g2, g3, g4]) (ρ := [1, 6, 7]) (φ := []) (ψ := [3, 4]) [none, none] [none, none, none, some 0, some 1] zyw_Sky_rowNextNight zyw_X_found zye_X_found (by decide +kernel) (zt_Sky_rowNextNight hr13) trivial ⟨rfl, rfl, trivial⟩ rfl rfl rfl rfl rfl rfl rfl) zd160_91 zxt158 rfl (by decide) (by decide) rfl ?_
            refine zv_cne hB zd160_94 rfl (fun hc14 => ?_) (fun hc14 => ?_)
            · rw [if_neg hc14] at h
              refine zv_con hB zd160_101 rfl ?_
              refine zv_ist hB zd160_102 rfl rfl rfl ?_
              refine zv_ild hB zd160_104 rfl rfl ?_
              refine zv_zne hB zd160_106 rfl (fun hc => absurd hc (by decide)) (fun _ => ?_)
              refine zv_ild hB zd160_109 rfl rfl ?_
              refine zv_con hB zd160_110 rfl ?_
              refine zv_ild hB zd160_111 rfl rfl ?_
              refine zv_shlw hB zd160_112 ?_
              refine zv_orw hB zd160_113 ?_
              refine zv_ist hB zd160_114 rfl rfl rfl ?_
              refine zv_iincw hB zd160_115 rfl rfl ?_
              refine zv_iincw hB zd160_118 rfl rfl ?_
              refine zv_goto hB zd160_121 rfl ?_
              refine zv_wk hB (L' := [.inr 0, .inl (zi_or x1 (zi_shl 1 x3)), .inl (zi_w (x2 + 2)), .inl (zi_w (x3 + 1)), .inr 1000]) (F' := [.inl f0, .inl f1]) ⟨fun _ => rfl, fun _ => rfl, fun _ => rfl, fun _ => rfl, fun (h : zv_is (.inr 1000)) => (Nat.lt_irrefl 1000 h).elim, trivial⟩ ⟨fun _ => rfl, fun _ => rfl, trivial⟩ ?_
              exact ih _ _ _ _ q h hK
            · rw [if_pos hc14] at h
              refine zv_con hB zd160_97 rfl ?_
              refine zv_goto hB zd160_98 rfl ?_
              refine zv_ist hB zd160_102 rfl rfl rfl ?_
              refine zv_ild hB zd160_104 rfl rfl ?_
              refine zv_zne hB zd160_106 rfl (fun _ => ?_) (fun hc => absurd hc (by decide))
              refine zv_iincw hB zd160_115 rfl rfl ?_
              refine zv_iincw hB zd160_118 rfl rfl ?_
              refine zv_goto hB zd160_121 rfl ?_
              refine zv_wk hB (L' := [.inr 0, .inl x1, .inl (zi_w (x2 + 2)), .inl (zi_w (x3 + 1)), .inr 1000]) (F' := [.inl f0, .inl f1]) ⟨fun _ => rfl, fun _ => rfl, fun _ => rfl, fun _ => rfl, fun (h : zv_is (.inr 1000)) => (Nat.lt_irrefl 1000 h).elim, trivial⟩ ⟨fun _ => rfl, fun _ => rfl, trivial⟩ ?_
              exact ih _ _ _ _ q h hK
  unfold zf_X_found at h
  refine zv_ald hB zd160_0 rfl rfl rfl ?_
  refine zv_getr hB zd160_1 rfl ?_
  refine zv_getf hB zd160_4 rfl rfl (fun _ _ => ?_)
  refine zv_zeq hB zd160_7 rfl (fun hc1 => ?_) (fun hc1 => ?_)
  · rw [if_pos hc1] at h
    refine zv_con hB zd160_32 rfl ?_
    have hw := Option.some.inj h
    subst hw
    exact hret _ _ _ _ _ zd160_33 (by trivial) ⟨rfl, rfl, rfl⟩
  · rw [if_neg hc1] at h
    refine zv_ald hB zd160_10 rfl rfl rfl ?_
    refine zv_getr hB zd160_11 rfl ?_
    refine zv_con hB zd160_14 rfl ?_
    refine zv_ald hB zd160_15 rfl rfl rfl ?_
    refine zv_getr hB zd160_16 rfl ?_
    refine zv_getf hB zd160_19 rfl rfl (fun _ _ => ?_)
    obtain ⟨r2, hr2, h⟩ := zi_bind h
    refine zv_cs hB (zv_emq (va2 := [.inl f0]) (F := [.inl f0, .inl f1]) (F' := [.inl f0, .inl f1]) (G := [g0, g1, g2, g3, g4]) (G' := [g0, g1, g2, g3, g4]) (ρ := []) (φ := []) (ψ := []) [none, none] [none, none, none, none, none] zyw_Integer_bitCount zyw_X_found zye_X_found (by decide +kernel) (zt_Integer_bitCount hr2) trivial trivial rfl rfl rfl rfl rfl rfl rfl) zd160_22 zxt102 rfl (by decide) (by decide) rfl ?_
    refine zv_mulw hB zd160_25 ?_
    obtain ⟨r3, hr3, h⟩ := zi_bind h
    refine zv_cv hB (zv_emq (va2 := [.inr 2, .inl (zi_w (2 * r2))]) (F := [.inl f0, .inl f1]) (F' := [.inl f0, .inl r3.2]) (G := [g0, g1, g2, g3, g4]) (G' := [g0, g1, g2, g3, g4]) (ρ := [2]) (φ := [1]) (ψ := []) [none, some 0] [none, none, none, none, none] zyw_Tape_take zyw_X_found zye_X_found (by decide +kernel) (zt_Tape_take hr3) ⟨⟨_, rfl, fun _ => rfl⟩, trivial⟩ trivial rfl rfl rfl rfl rfl rfl rfl) zd160_26 zxt35 rfl (by decide) (by decide) rfl ?_
    refine zv_zne hB zd160_29 rfl (fun hc4 => ?_) (fun hc4 => ?_)
    · rw [if_neg hc4] at h
      refine zv_con hB zd160_34 rfl ?_
      refine zv_ist hB zd160_35 rfl rfl rfl ?_
      refine zv_con hB zd160_36 rfl ?_
      refine zv_ist hB zd160_37 rfl rfl rfl ?_
      refine zv_con hB zd160_38 rfl ?_
      refine zv_ist hB zd160_39 rfl rfl rfl ?_
      obtain ⟨q17, hq17, h⟩ := zi_bind h
      refine l0 _ _ _ _ _ q17 hq17 ?_
      show good 124 [.inr 1000, .inl q17, .inr 1000, .inr 1000, .inr 1000] [] [.inl f0, .inl r3.2] [g0, g1, g2, g3, g4]
      refine zv_ild hB zd160_124 rfl rfl ?_
      have hw := Option.some.inj h
      subst hw
      exact hret _ _ _ _ _ zd160_125 (by trivial) ⟨rfl, rfl, rfl⟩
    · rw [if_pos hc4] at h
      refine zv_con hB zd160_32 rfl ?_
      have hw := Option.some.inj h
      subst hw
      exact hret _ _ _ _ _ zd160_33 (by trivial) ⟨rfl, rfl, rfl⟩
/-! Arrays_fill_288 ([II)V -/
-- names: 0 (0, 288)('arg', 0)
-- fields: ; arrays: g0 = 0; out: [('g', 0)]
abbrev zy_Arrays_fill_288 : zNL := (1, [], [], [], [(0, 0, 288, 0)])
theorem zyw_Arrays_fill_288 : zv_wf zy_Arrays_fill_288 = true := by decide +kernel
theorem zye_Arrays_fill_288 : zv_ek2 zy_Arrays_fill_288 = true := by decide +kernel
def zf_Arrays_fill_288_l0_b (x1 : Int) (x3 : Int) (rec : Int → (Int → Int) → Option ((Int → Int))) (x2 : Int) (g0 : (Int → Int)) : Option ((Int → Int)) := if x2 < x3 then (cond (zi_ix x2 288) (rec (zi_w (x2 + 1)) (zv_up g0 x2 x1)) none) else (some g0)
def zf_Arrays_fill_288_l0 (x1 : Int) (x3 : Int) : Nat → Int → (Int → Int) → Option ((Int → Int))
  | 0, _, _ => none
  | n + 1, x2, g0 => zf_Arrays_fill_288_l0_b x1 x3 (zf_Arrays_fill_288_l0 x1 x3 n) x2 g0
def zf_Arrays_fill_288 (x1 : Int) (g0 : (Int → Int)) : Option ((Int → Int)) := (zf_Arrays_fill_288_l0 x1 288 zi_fu 0 g0).bind fun q3 => (some q3)
theorem zt_Arrays_fill_288 {x1 : Int} {g0 : (Int → Int)} {o : (Int → Int)} (h : zf_Arrays_fill_288 x1 g0 = some o) : zv_Fn z_TB z_cl z_KX zy_Arrays_fill_288 zxm78 (0, 0) [.inr 0, .inl x1] [] [g0] none [] [o] := zv_meth (K := (z_KF20, z_KC20, z_KL20, z_KT20, [], [], [], none)) (FT := z_FT) (MT := z_MT) (n := 2) zxp78 (z_ks20 _ (fun _ h => List.mem_cons_of_mem _ h) _ _ _ _ (fun j r h _ => by cases h)) (fun _ _ => zs_KX_p) zyw_Arrays_fill_288 (fun va F G h => by obtain ⟨rfl, _⟩ := h; rfl) (fun va F G h => by obtain ⟨rfl, _⟩ := h; rfl) rfl fun good va F G hB hret hvret hP => by
  obtain ⟨rfl, rfl, rfl⟩ := hP
  have l0 : ∀ (n : Nat) (x1 : Int) (x2 : Int) (x3 : Int) (g0 : (Int → Int)) (q : (Int → Int)), zf_Arrays_fill_288_l0 x1 x3 n x2 g0 = some q → (good 20 [.inr 1000, .inr 1000, .inr 1000, .inr 1000] [] [] [q]) → good 5 [.inr 0, .inl x1, .inl x2, .inl x3] [] [] [g0] := by
    intro n
    induction n with
    | zero => intro x1 x2 x3 g0 q h; exact absurd (show none = some q from h) (fun h => by cases h)
    | succ n ih =>
      intro x1 x2 x3 g0 q h hK
      replace h : zf_Arrays_fill_288_l0_b x1 x3 (zf_Arrays_fill_288_l0 x1 x3 n) x2 g0 = some q := h
      unfold zf_Arrays_fill_288_l0_b at h
      refine zv_ild hB zd78_5 rfl rfl ?_
      refine zv_ild hB zd78_6 rfl rfl ?_
      refine zv_cge hB zd78_7 rfl (fun hc1 => ?_) (fun hc1 => ?_)
      · rw [if_neg (Int.not_lt.mpr hc1)] at h
        have hq := Option.some.inj h
        subst hq
        refine zv_wk hB (L' := [.inr 1000, .inr 1000, .inr 1000, .inr 1000]) (F' := []) ⟨fun (h : zv_is (.inr 1000)) => (Nat.lt_irrefl 1000 h).elim, fun (h : zv_is (.inr 1000)) => (Nat.lt_irrefl 1000 h).elim, fun (h : zv_is (.inr 1000)) => (Nat.lt_irrefl 1000 h).elim, fun (h : zv_is (.inr 1000)) => (Nat.lt_irrefl 1000 h).elim, trivial⟩ trivial ?_
        exact hK
      · rw [if_pos hc1] at h
        refine zv_ald hB zd78_10 rfl rfl rfl ?_
        refine zv_ild hB zd78_11 rfl rfl ?_
        refine zv_ild hB zd78_12 rfl rfl ?_
        obtain ⟨c2, h⟩ := zi_if h
        refine zv_iast hB zd78_13 rfl rfl (zi_ix_ok c2).1 (zi_ix_ok c2).2 ?_
        refine zv_iincw hB zd78_14 rfl rfl ?_
        refine zv_goto hB zd78_17 rfl ?_
        exact ih _ _ _ _ q h hK
  unfold zf_Arrays_fill_288 at h
  refine zv_con hB zd78_0 rfl ?_
  refine zv_ist hB zd78_1 rfl rfl rfl ?_
  refine zv_ald hB zd78_2 rfl rfl rfl ?_
  refine zv_alen (v := 288) hB zd78_3 rfl rfl rfl rfl ?_
  refine zv_ist hB zd78_4 rfl rfl rfl ?_
  obtain ⟨q3, hq3, h⟩ := zi_bind h
  refine l0 _ _ _ _ _ q3 hq3 ?_
  show good 20 [.inr 1000, .inr 1000, .inr 1000, .inr 1000] [] [] [q3]
  have hw := Option.some.inj h
  subst hw
  exact hvret _ _ _ _ zd78_20 trivial ⟨rfl, rfl, rfl⟩
/-! Pilot_spread_288 (LStarTales$Sea;I[I)V -/
-- names: 0 Pilot('arg', 0), 1 Sea('arg', 1), 2 (0, 288)('arg', 3), 3 (0, 288)(0, 9, 14), 4 (0, 12)(1, 2, 0)
-- fields: ; arrays: g0 = 2, g1 = 3, g2 = 4; out: [('g', 0), ('g', 1)]
abbrev zy_Pilot_spread_288 : zNL := (5, [(0, 9), (1, 2)], [], [(0, 9, 14, 3), (1, 2, 0, 4)], [(2, 0, 288, 0), (3, 0, 288, 1), (4, 0, 12, 2)])
theorem zyw_Pilot_spread_288 : zv_wf zy_Pilot_spread_288 = true := by decide +kernel
theorem zye_Pilot_spread_288 : zv_ek2 zy_Pilot_spread_288 = true := by decide +kernel
def zf_Pilot_spread_288_l1_b (x6 : Int) (g2 : (Int → Int)) (rec : Int → Int → (Int → Int) → (Int → Int) → Option (Int × (Int → Int) × (Int → Int))) (x4 : Int) (x7 : Int) (g0 : (Int → Int)) (g1 : (Int → Int)) : Option (Int × (Int → Int) × (Int → Int)) := if x7 < 5 then ((zf_Sea_goFrom x6 x7 g2).bind fun r7 => (if r7 = (-1) then (rec x4 (zi_w (x7 + 1)) g0 g1) else (cond (zi_ix r7 288) (if (g0 r7) = (-1) then (if x4 < 288 then (cond (zi_ix x6 288) (cond (zi_ix x4 288) (rec (zi_w (x4 + 1)) (zi_w (x7 + 1)) (zv_up g0 r7 (zi_w ((g0 x6) + 1))) (zv_up g1 x4 r7)) none) none) else (rec x4 (zi_w (x7 + 1)) g0 g1)) else (rec x4 (zi_w (x7 + 1)) g0 g1)) none))) else (some (x4, g0, g1))
def zf_Pilot_spread_288_l1 (x6 : Int) (g2 : (Int → Int)) : Nat → Int → Int → (Int → Int) → (Int → Int) → Option (Int × (Int → Int) × (Int → Int))
  | 0, _, _, _, _ => none
  | n + 1, x4, x7, g0, g1 => zf_Pilot_spread_288_l1_b x6 g2 (zf_Pilot_spread_288_l1 x6 g2 n) x4 x7 g0 g1
def zf_Pilot_spread_288_l0_b (g2 : (Int → Int)) (rec : Int → Int → (Int → Int) → (Int → Int) → Option ((Int → Int) × (Int → Int))) (x4 : Int) (x5 : Int) (g0 : (Int → Int)) (g1 : (Int → Int)) : Option ((Int → Int) × (Int → Int)) := if x5 < x4 then (if x5 < 288 then (cond (zi_ix x5 288) ((zf_Pilot_spread_288_l1 (g1 x5) g2 zi_fu x4 1 g0 g1).bind fun q14 => (rec q14.1 (zi_w (x5 + 1)) q14.2.1 q14.2.2)) none) else (some (g0, g1))) else (some (g0, g1))
def zf_Pilot_spread_288_l0 (g2 : (Int → Int)) : Nat → Int → Int → (Int → Int) → (Int → Int) → Option ((Int → Int) × (Int → Int))
  | 0, _, _, _, _ => none
  | n + 1, x4, x5, g0, g1 => zf_Pilot_spread_288_l0_b g2 (zf_Pilot_spread_288_l0 g2 n) x4 x5 g0 g1
def zf_Pilot_spread_288 (x2 : Int) (g0 : (Int → Int)) (g1 : (Int → Int)) (g2 : (Int → Int)) : Option ((Int → Int) × (Int → Int)) := (zf_Arrays_fill_288 (-1) g0).bind fun r1 => (cond (zi_ix x2 288) ((zf_Pilot_spread_288_l0 g2 zi_fu 1 0 (zv_up r1 x2 0) (zv_up g1 0 x2)).bind fun q15 => (some (q15.1, q15.2))) none)
theorem zd163_0 : decode zxm163.2.1 0 = .ok (.aload_n 3, 1) := by decide +kernel
theorem zd163_1 : decode zxm163.2.1 1 = .ok (.iconst (-1), 1) := by decide +kernel
theorem zd163_2 : decode zxm163.2.1 2 = .ok (.invokestatic 110, 3) := by decide +kernel
theorem zd163_5 : decode zxm163.2.1 5 = .ok (.aload_n 3, 1) := by decide +kernel
theorem zd163_6 : decode zxm163.2.1 6 = .ok (.iload_n 2, 1) := by decide +kernel
theorem zd163_7 : decode zxm163.2.1 7 = .ok (.iconst 0, 1) := by decide +kernel
theorem zd163_8 : decode zxm163.2.1 8 = .ok (.iastore, 1) := by decide +kernel
theorem zd163_9 : decode zxm163.2.1 9 = .ok (.aload_n 0, 1) := by decide +kernel
theorem zd163_10 : decode zxm163.2.1 10 = .ok (.getfield 55, 3) := by decide +kernel
theorem zd163_13 : decode zxm163.2.1 13 = .ok (.iconst 0, 1) := by decide +kernel
theorem zd163_14 : decode zxm163.2.1 14 = .ok (.iload_n 2, 1) := by decide +kernel
theorem zd163_15 : decode zxm163.2.1 15 = .ok (.iastore, 1) := by decide +kernel
theorem zd163_16 : decode zxm163.2.1 16 = .ok (.iconst 1, 1) := by decide +kernel
theorem zd163_17 : decode zxm163.2.1 17 = .ok (.istore 4, 2) := by decide +kernel
theorem zd163_19 : decode zxm163.2.1 19 = .ok (.iconst 0, 1) := by decide +kernel
theorem zd163_20 : decode zxm163.2.1 20 = .ok (.istore 5, 2) := by decide +kernel
theorem zd163_22 : decode zxm163.2.1 22 = .ok (.iload 5, 2) := by decide +kernel
theorem zd163_24 : decode zxm163.2.1 24 = .ok (.iload 4, 2) := by decide +kernel
theorem zd163_26 : decode zxm163.2.1 26 = .ok (.if_icmp .ge 95, 3) := by decide +kernel
theorem zd163_29 : decode zxm163.2.1 29 = .ok (.iload 5, 2) := by decide +kernel
theorem zd163_31 : decode zxm163.2.1 31 = .ok (.sipush 288, 3) := by decide +kernel
theorem zd163_34 : decode zxm163.2.1 34 = .ok (.if_icmp .ge 87, 3) := by decide +kernel
theorem zd163_37 : decode zxm163.2.1 37 = .ok (.aload_n 0, 1) := by decide +kernel
theorem zd163_38 : decode zxm163.2.1 38 = .ok (.getfield 55, 3) := by decide +kernel
theorem zd163_41 : decode zxm163.2.1 41 = .ok (.iload 5, 2) := by decide +kernel
theorem zd163_43 : decode zxm163.2.1 43 = .ok (.iaload, 1) := by decide +kernel
theorem zd163_44 : decode zxm163.2.1 44 = .ok (.istore 6, 2) := by decide +kernel
theorem zd163_46 : decode zxm163.2.1 46 = .ok (.iconst 1, 1) := by decide +kernel
theorem zd163_47 : decode zxm163.2.1 47 = .ok (.istore 7, 2) := by decide +kernel
theorem zd163_49 : decode zxm163.2.1 49 = .ok (.iload 7, 2) := by decide +kernel
theorem zd163_51 : decode zxm163.2.1 51 = .ok (.iconst 5, 1) := by decide +kernel
theorem zd163_52 : decode zxm163.2.1 52 = .ok (.if_icmp .ge 63, 3) := by decide +kernel
theorem zd163_55 : decode zxm163.2.1 55 = .ok (.aload_n 1, 1) := by decide +kernel
theorem zd163_56 : decode zxm163.2.1 56 = .ok (.iload 6, 2) := by decide +kernel
theorem zd163_58 : decode zxm163.2.1 58 = .ok (.iload 7, 2) := by decide +kernel
theorem zd163_60 : decode zxm163.2.1 60 = .ok (.invokevirtual 99, 3) := by decide +kernel
theorem zd163_63 : decode zxm163.2.1 63 = .ok (.istore 8, 2) := by decide +kernel
theorem zd163_65 : decode zxm163.2.1 65 = .ok (.iload 8, 2) := by decide +kernel
theorem zd163_67 : decode zxm163.2.1 67 = .ok (.iconst (-1), 1) := by decide +kernel
theorem zd163_68 : decode zxm163.2.1 68 = .ok (.if_icmp .eq 41, 3) := by decide +kernel
theorem zd163_71 : decode zxm163.2.1 71 = .ok (.aload_n 3, 1) := by decide +kernel
theorem zd163_72 : decode zxm163.2.1 72 = .ok (.iload 8, 2) := by decide +kernel
theorem zd163_74 : decode zxm163.2.1 74 = .ok (.iaload, 1) := by decide +kernel
theorem zd163_75 : decode zxm163.2.1 75 = .ok (.iconst (-1), 1) := by decide +kernel
theorem zd163_76 : decode zxm163.2.1 76 = .ok (.if_icmp .ne 33, 3) := by decide +kernel
theorem zd163_79 : decode zxm163.2.1 79 = .ok (.iload 4, 2) := by decide +kernel
theorem zd163_81 : decode zxm163.2.1 81 = .ok (.sipush 288, 3) := by decide +kernel
theorem zd163_84 : decode zxm163.2.1 84 = .ok (.if_icmp .ge 25, 3) := by decide +kernel
theorem zd163_87 : decode zxm163.2.1 87 = .ok (.aload_n 3, 1) := by decide +kernel
theorem zd163_88 : decode zxm163.2.1 88 = .ok (.iload 8, 2) := by decide +kernel
theorem zd163_90 : decode zxm163.2.1 90 = .ok (.aload_n 3, 1) := by decide +kernel
theorem zd163_91 : decode zxm163.2.1 91 = .ok (.iload 6, 2) := by decide +kernel
theorem zd163_93 : decode zxm163.2.1 93 = .ok (.iaload, 1) := by decide +kernel
theorem zd163_94 : decode zxm163.2.1 94 = .ok (.iconst 1, 1) := by decide +kernel
theorem zd163_95 : decode zxm163.2.1 95 = .ok (.iadd, 1) := by decide +kernel
theorem zd163_96 : decode zxm163.2.1 96 = .ok (.iastore, 1) := by decide +kernel
theorem zd163_97 : decode zxm163.2.1 97 = .ok (.aload_n 0, 1) := by decide +kernel
theorem zd163_98 : decode zxm163.2.1 98 = .ok (.getfield 55, 3) := by decide +kernel
theorem zd163_101 : decode zxm163.2.1 101 = .ok (.iload 4, 2) := by decide +kernel
theorem zd163_103 : decode zxm163.2.1 103 = .ok (.iload 8, 2) := by decide +kernel
theorem zd163_105 : decode zxm163.2.1 105 = .ok (.iastore, 1) := by decide +kernel
theorem zd163_106 : decode zxm163.2.1 106 = .ok (.iinc 4 1, 3) := by decide +kernel
theorem zd163_109 : decode zxm163.2.1 109 = .ok (.iinc 7 1, 3) := by decide +kernel
theorem zd163_112 : decode zxm163.2.1 112 = .ok (.goto (-63), 3) := by decide +kernel
theorem zd163_115 : decode zxm163.2.1 115 = .ok (.iinc 5 1, 3) := by decide +kernel
theorem zd163_118 : decode zxm163.2.1 118 = .ok (.goto (-96), 3) := by decide +kernel
theorem zd163_121 : decode zxm163.2.1 121 = .ok (.return_, 1) := by decide +kernel
theorem zt_Pilot_spread_288 {x2 : Int} {g0 : (Int → Int)} {g1 : (Int → Int)} {g2 : (Int → Int)} {o : (Int → Int) × (Int → Int)} (h : zf_Pilot_spread_288 x2 g0 g1 g2 = some o) : zv_Fn z_TB z_cl z_KX zy_Pilot_spread_288 zxm163 (3, 180) [.inr 0, .inr 1, .inl x2, .inr 2] [] [g0, g1, g2] none [] [o.1, o.2, g2] := zv_meth (K := (z_KF6, z_KC6, z_KL6, z_KT6, [], [], [], none)) (FT := z_FT) (MT := z_MT) (n := 4) zxp163 (z_ks6 _ (fun _ h => List.mem_cons_of_mem _ h) _ _ _ _ (fun j r h _ => by cases h)) (fun _ _ => zs_KX_p) zyw_Pilot_spread_288 (fun va F G h => by obtain ⟨rfl, _⟩ := h; rfl) (fun va F G h => by obtain ⟨rfl, _⟩ := h; rfl) rfl fun good va F G hB hret hvret hP => by
  obtain ⟨rfl, rfl, rfl⟩ := hP
  have l1 : ∀ (n : Nat) (x4 : Int) (x5 : Int) (x6 : Int) (x7 : Int) (g0 : (Int → Int)) (g1 : (Int → Int)) (q : Int × (Int → Int) × (Int → Int)), zf_Pilot_spread_288_l1 x6 g2 n x4 x7 g0 g1 = some q → (good 115 [.inr 0, .inr 1, .inr 1000, .inr 2, .inl q.1, .inl x5, .inr 1000, .inr 1000, .inr 1000] [] [] [q.2.1, q.2.2, g2]) → good 49 [.inr 0, .inr 1, .inr 1000, .inr 2, .inl x4, .inl x5, .inl x6, .inl x7, .inr 1000] [] [] [g0, g1, g2] := by
    intro n
    induction n with
    | zero => intro x4 x5 x6 x7 g0 g1 q h; exact absurd (show none = some q from h) (fun h => by cases h)
    | succ n ih =>
      intro x4 x5 x6 x7 g0 g1 q h hK
      replace h : zf_Pilot_spread_288_l1_b x6 g2 (zf_Pilot_spread_288_l1 x6 g2 n) x4 x7 g0 g1 = some q := h
      unfold zf_Pilot_spread_288_l1_b at h
      refine zv_ild hB zd163_49 rfl rfl ?_
      refine zv_con hB zd163_51 rfl ?_
      refine zv_cge hB zd163_52 rfl (fun hc6 => ?_) (fun hc6 => ?_)
      · rw [if_neg (Int.not_lt.mpr hc6)] at h
        have hq := Option.some.inj h
        subst hq
        refine zv_wk hB (L' := [.inr 0, .inr 1, .inr 1000, .inr 2, .inl x4, .inl x5, .inr 1000, .inr 1000, .inr 1000]) (F' := []) ⟨fun _ => rfl, fun _ => rfl, fun (h : zv_is (.inr 1000)) => (Nat.lt_irrefl 1000 h).elim, fun _ => rfl, fun _ => rfl, fun _ => rfl, fun (h : zv_is (.inr 1000)) => (Nat.lt_irrefl 1000 h).elim, fun (h : zv_is (.inr 1000)) => (Nat.lt_irrefl 1000 h).elim, fun (h : zv_is (.inr 1000)) => (Nat.lt_irrefl 1000 h).elim, trivial⟩ trivial ?_
        exact hK
      · rw [if_pos hc6] at h
        refine zv_ald hB zd163_55 rfl rfl rfl ?_
        refine zv_ild hB zd163_56 rfl rfl ?_
        refine zv_ild hB zd163_58 rfl rfl ?_
        obtain ⟨r7, hr7, h⟩ := zi_bind h
        refine zv_cv hB (zv_emq (va2 := [.inr 1, .inl x6, .inl x7]) (F := []) (F' := []) (G := [g0, g1, g2]) (G' := [g0, g1, g2]) (ρ := [1, 4]) (φ := []) (ψ := [2]) [] [none, none, some 0] zyw_Sea_goFrom zyw_Pilot_spread_288 zye_Pilot_spread_288 (by decide +kernel) (zt_Sea_goFrom hr7) trivial ⟨rfl, trivial⟩ rfl rfl rfl rfl rfl rfl rfl) zd163_60 zxt154 rfl (by decide) (by decide) rfl ?_
        refine zv_ist hB zd163_63 rfl rfl rfl ?_
        refine zv_ild hB zd163_65 rfl rfl ?_
        refine zv_con hB zd163_67 rfl ?_
        refine zv_ceq hB zd163_68 rfl (fun hc8 => ?_) (fun hc8 => ?_)
        · rw [if_pos hc8] at h
          refine zv_iincw hB zd163_109 rfl rfl ?_
          refine zv_goto hB zd163_112 rfl ?_
          refine zv_wk hB (L' := [.inr 0, .inr 1, .inr 1000, .inr 2, .inl x4, .inl x5, .inl x6, .inl (zi_w (x7 + 1)), .inr 1000]) (F' := []) ⟨fun _ => rfl, fun _ => rfl, fun (h : zv_is (.inr 1000)) => (Nat.lt_irrefl 1000 h).elim, fun _ => rfl, fun _ => rfl, fun _ => rfl, fun _ => rfl, fun _ => rfl, fun (h : zv_is (.inr 1000)) => (Nat.lt_irrefl 1000 h).elim, trivial⟩ trivial ?_
          exact ih _ _ _ _ _ _ q h hK
        · rw [if_neg hc8] at h
          refine zv_ald hB zd163_71 rfl rfl rfl ?_
          refine zv_ild hB zd163_72 rfl rfl ?_
          obtain ⟨c9, h⟩ := zi_if h
          refine zv_iald hB zd163_74 rfl rfl (zi_ix_ok c9).1 (zi_ix_ok c9).2 (fun _ _ => ?_)
          refine zv_con hB zd163_75 rfl ?_
          refine zv_cne hB zd163_76 rfl (fun hc10 => ?_) (fun hc10 => ?_)
          · rw [if_neg hc10] at h
            refine zv_iincw hB zd163_109 rfl rfl ?_
            refine zv_goto hB zd163_112 rfl ?_
            refine zv_wk hB (L' := [.inr 0, .inr 1, .inr 1000, .inr 2, .inl x4, .inl x5, .inl x6, .inl (zi_w (x7 + 1)), .inr 1000]) (F' := []) ⟨fun _ => rfl, fun _ => rfl, fun (h : zv_is (.inr 1000)) => (Nat.lt_irrefl 1000 h).elim, fun _ => rfl, fun _ => rfl, fun _ => rfl, fun _ => rfl, fun _ => rfl, fun (h : zv_is (.inr 1000)) => (Nat.lt_irrefl 1000 h).elim, trivial⟩ trivial ?_
            exact ih _ _ _ _ _ _ q h hK
          · rw [if_pos hc10] at h
            refine zv_ild hB zd163_79 rfl rfl ?_
            refine zv_con hB zd163_81 rfl ?_
            refine zv_cge hB zd163_84 rfl (fun hc11 => ?_) (fun hc11 => ?_)
            · rw [if_neg (Int.not_lt.mpr hc11)] at h
              refine zv_iincw hB zd163_109 rfl rfl ?_
              refine zv_goto hB zd163_112 rfl ?_
              refine zv_wk hB (L' := [.inr 0, .inr 1, .inr 1000, .inr 2, .inl x4, .inl x5, .inl x6, .inl (zi_w (x7 + 1)), .inr 1000]) (F' := []) ⟨fun _ => rfl, fun _ => rfl, fun (h : zv_is (.inr 1000)) => (Nat.lt_irrefl 1000 h).elim, fun _ => rfl, fun _ => rfl, fun _ => rfl, fun _ => rfl, fun _ => rfl, fun (h : zv_is (.inr 1000)) => (Nat.lt_irrefl 1000 h).elim, trivial⟩ trivial ?_
              exact ih _ _ _ _ _ _ q h hK
            · rw [if_pos hc11] at h
              refine zv_ald hB zd163_87 rfl rfl rfl ?_
              refine zv_ild hB zd163_88 rfl rfl ?_
              refine zv_ald hB zd163_90 rfl rfl rfl ?_
              refine zv_ild hB zd163_91 rfl rfl ?_
              obtain ⟨c12, h⟩ := zi_if h
              refine zv_iald hB zd163_93 rfl rfl (zi_ix_ok c12).1 (zi_ix_ok c12).2 (fun _ _ => ?_)
              refine zv_con hB zd163_94 rfl ?_
              refine zv_addw hB zd163_95 ?_
              refine zv_iast hB zd163_96 rfl rfl (zi_ix_ok c9).1 (zi_ix_ok c9).2 ?_
              refine zv_ald hB zd163_97 rfl rfl rfl ?_
              refine zv_getr hB zd163_98 rfl ?_
              refine zv_ild hB zd163_101 rfl rfl ?_
              refine zv_ild hB zd163_103 rfl rfl ?_
              obtain ⟨c13, h⟩ := zi_if h
              refine zv_iast hB zd163_105 rfl rfl (zi_ix_ok c13).1 (zi_ix_ok c13).2 ?_
              refine zv_iincw hB zd163_106 rfl rfl ?_
              refine zv_iincw hB zd163_109 rfl rfl ?_
              refine zv_goto hB zd163_112 rfl ?_
              refine zv_wk hB (L' := [.inr 0, .inr 1, .inr 1000, .inr 2, .inl (zi_w (x4 + 1)), .inl x5, .inl x6, .inl (zi_w (x7 + 1)), .inr 1000]) (F' := []) ⟨fun _ => rfl, fun _ => rfl, fun (h : zv_is (.inr 1000)) => (Nat.lt_irrefl 1000 h).elim, fun _ => rfl, fun _ => rfl, fun _ => rfl, fun _ => rfl, fun _ => rfl, fun (h : zv_is (.inr 1000)) => (Nat.lt_irrefl 1000 h).elim, trivial⟩ trivial ?_
              exact ih _ _ _ _ _ _ q h hK
  have l0 : ∀ (n : Nat) (x4 : Int) (x5 : Int) (g0 : (Int → Int)) (g1 : (Int → Int)) (q : (Int → Int) × (Int → Int)), zf_Pilot_spread_288_l0 g2 n x4 x5 g0 g1 = some q → (good 121 [.inr 1000, .inr 1000, .inr 1000, .inr 1000, .inr 1000, .inr 1000, .inr 1000, .inr 1000, .inr 1000] [] [] [q.1, q.2, g2]) → good 22 [.inr 0, .inr 1, .inr 1000, .inr 2, .inl x4, .inl x5, .inr 1000, .inr 1000, .inr 1000] [] [] [g0, g1, g2] := by
    intro n
    induction n with
    | zero => intro x4 x5 g0 g1 q h; exact absurd (show none = some q from h) (fun h => by cases h)
    | succ n ih =>
      intro x4 x5 g0 g1 q h hK
      replace h : zf_Pilot_spread_288_l0_b g2 (zf_Pilot_spread_288_l0 g2 n) x4 x5 g0 g1 = some q := h
      unfold zf_Pilot_spread_288_l0_b at h
      refine zv_ild hB zd163_22 rfl rfl ?_
      refine zv_ild hB zd163_24 rfl rfl ?_
      refine zv_cge hB zd163_26 rfl (fun hc3 => ?_) (fun hc3 => ?_)
      · rw [if_neg (Int.not_lt.mpr hc3)] at h
        have hq := Option.some.inj h
        subst hq
        refine zv_wk hB (L' := [.inr 1000, .inr 1000, .inr 1000, .inr 1000, .inr 1000, .inr 1000, .inr 1000, .inr 1000, .inr 1000]) (F' := []) ⟨fun (h : zv_is (.inr 1000)) => (Nat.lt_irrefl 1000 h).elim, fun (h : zv_is (.inr 1000)) => (Nat.lt_irrefl 1000 h).elim, fun (h : zv_is (.inr 1000)) => (Nat.lt_irrefl 1000 h).elim, fun (h : zv_is (.inr 1000)) => (Nat.lt_irrefl 1000 h).elim, fun (h : zv_is (.inr 1000)) => (Nat.lt_irrefl 1000 h).elim, fun (h : zv_is (.inr 1000)) => (Nat.lt_irrefl 1000 h).elim, fun (h : zv_is (.inr 1000)) => (Nat.lt_irrefl 1000 h).elim, fun (h : zv_is (.inr 1000)) => (Nat.lt_irrefl 1000 h).elim, fun (h : zv_is (.inr 1000)) => (Nat.lt_irrefl 1000 h).elim, trivial⟩ trivial ?_
        exact hK
      · rw [if_pos hc3] at h
        refine zv_ild hB zd163_29 rfl rfl ?_
        refine zv_con hB zd163_31 rfl ?_
        refine zv_cge hB zd163_34 rfl (fun hc4 => ?_) (fun hc4 => ?_)
        · rw [if_neg (Int.not_lt.mpr hc4)] at h
          have hq := Option.some.inj h
          subst hq
          refine zv_wk hB (L' := [.inr 1000, .inr 1000, .inr 1000, .inr 1000, .inr 1000, .inr 1000, .inr 1000, .inr 1000, .inr 1000]) (F' := []) ⟨fun (h : zv_is (.inr 1000)) => (Nat.lt_irrefl 1000 h).elim, fun (h : zv_is (.inr 1000)) => (Nat.lt_irrefl 1000 h).elim, fun (h : zv_is (.inr 1000)) => (Nat.lt_irrefl 1000 h).elim, fun (h : zv_is (.inr 1000)) => (Nat.lt_irrefl 1000 h).elim, fun (h : zv_is (.inr 1000)) => (Nat.lt_irrefl 1000 h).elim, fun (h : zv_is (.inr 1000)) => (Nat.lt_irrefl 1000 h).elim, fun (h : zv_is (.inr 1000)) => (Nat.lt_irrefl 1000 h).elim, fun (h : zv_is (.inr 1000)) => (Nat.lt_irrefl 1000 h).elim, fun (h : zv_is (.inr 1000)) => (Nat.lt_irrefl 1000 h).elim, trivial⟩ trivial ?_
          exact hK
        · rw [if_pos hc4] at h
          refine zv_ald hB zd163_37 rfl rfl rfl ?_
          refine zv_getr hB zd163_38 rfl ?_
          refine zv_ild hB zd163_41 rfl rfl ?_
          obtain ⟨c5, h⟩ := zi_if h
          refine zv_iald hB zd163_43 rfl rfl (zi_ix_ok c5).1 (zi_ix_ok c5).2 (fun _ _ => ?_)
          refine zv_ist hB zd163_44 rfl rfl rfl ?_
          refine zv_con hB zd163_46 rfl ?_
          refine zv_ist hB zd163_47 rfl rfl rfl ?_
          obtain ⟨q14, hq14, h⟩ := zi_bind h
          refine l1 _ _ _ _ _ _ _ q14 hq14 ?_
          show good 115 [.inr 0, .inr 1, .inr 1000, .inr 2, .inl q14.1, .inl x5, .inr 1000, .inr 1000, .inr 1000] [] [] [q14.2.1, q14.2.2, g2]
          refine zv_iincw hB zd163_115 rfl rfl ?_
          refine zv_goto hB zd163_118 rfl ?_
          exact ih _ _ _ _ q h hK
  unfold zf_Pilot_spread_288 at h
  refine zv_ald hB zd163_0 rfl rfl rfl ?_
  refine zv_con hB zd163_1 rfl ?_
  obtain ⟨r1, hr1, h⟩ := zi_bind h
  refine zv_cs hB (zv_emq (va2 := [.inr 2, .inl (-1)]) (F := []) (F' := []) (G := [g0, g1, g2]) (G' := [r1, g1, g2]) (ρ := [2]) (φ := []) (ψ := [0]) [] [some 0, none, none] zyw_Arrays_fill_288 zyw_Pilot_spread_288 zye_Pilot_spread_288 (by decide +kernel) (zt_Arrays_fill_288 hr1) trivial ⟨rfl, trivial⟩ rfl rfl rfl rfl rfl rfl rfl) zd163_2 zxt78 rfl (by decide) (by decide) rfl ?_
  refine zv_ald hB zd163_5 rfl rfl rfl ?_
  refine zv_ild hB zd163_6 rfl rfl ?_
  refine zv_con hB zd163_7 rfl ?_
  obtain ⟨c2, h⟩ := zi_if h
  refine zv_iast hB zd163_8 rfl rfl (zi_ix_ok c2).1 (zi_ix_ok c2).2 ?_
  refine zv_ald hB zd163_9 rfl rfl rfl ?_
  refine zv_getr hB zd163_10 rfl ?_
  refine zv_con hB zd163_13 rfl ?_
  refine zv_ild hB zd163_14 rfl rfl ?_
  refine zv_iast hB zd163_15 rfl rfl (by decide) (by decide) ?_
  refine zv_con hB zd163_16 rfl ?_
  refine zv_ist hB zd163_17 rfl rfl rfl ?_
  refine zv_con hB zd163_19 rfl ?_
  refine zv_ist hB zd163_20 rfl rfl rfl ?_
  obtain ⟨q15, hq15, h⟩ := zi_bind h
  refine zv_wk hB (L' := [.inr 0, .inr 1, .inr 1000, .inr 2, .inl 1, .inl 0, .inr 1000, .inr 1000, .inr 1000]) (F' := []) ⟨fun _ => rfl, fun _ => rfl, fun (h : zv_is (.inr 1000)) => (Nat.lt_irrefl 1000 h).elim, fun _ => rfl, fun _ => rfl, fun _ => rfl, fun (h : zv_is (.inr 1000)) => (Nat.lt_irrefl 1000 h).elim, fun (h : zv_is (.inr 1000)) => (Nat.lt_irrefl 1000 h).elim, fun (h : zv_is (.inr 1000)) => (Nat.lt_irrefl 1000 h).elim, trivial⟩ trivial ?_
  refine l0 _ _ _ _ _ q15 hq15 ?_
  show good 121 [.inr 1000, .inr 1000, .inr 1000, .inr 1000, .inr 1000, .inr 1000, .inr 1000, .inr 1000, .inr 1000] [] [] [q15.1, q15.2, g2]
  have hw := Option.some.inj h
  subst hw
  exact hvret _ _ _ _ zd163_121 trivial ⟨rfl, rfl, rfl⟩
/-! Pilot_hoursTo (I)I -/
-- names: 0 Pilot('arg', 0), 1 (0, 288)(0, 9, 12), 2 (0, 288)(0, 9, 13)
-- fields: ; arrays: g0 = 1, g1 = 2; out: [('ret', None)]
abbrev zy_Pilot_hoursTo : zNL := (3, [(0, 9)], [], [(0, 9, 12, 1), (0, 9, 13, 2)], [(1, 0, 288, 0), (2, 0, 288, 1)])
theorem zyw_Pilot_hoursTo : zv_wf zy_Pilot_hoursTo = true := by decide +kernel
theorem zye_Pilot_hoursTo : zv_ek2 zy_Pilot_hoursTo = true := by decide +kernel
def zf_Pilot_hoursTo (x1 : Int) (g0 : (Int → Int)) (g1 : (Int → Int)) : Option (Int) := cond (zi_ix x1 288) ((zf_Math_max (g0 x1) (g1 x1)).bind fun r2 => (some r2)) none
theorem zd164_0 : decode zxm164.2.1 0 = .ok (.aload_n 0, 1) := by decide +kernel
theorem zd164_1 : decode zxm164.2.1 1 = .ok (.getfield 49, 3) := by decide +kernel
theorem zd164_4 : decode zxm164.2.1 4 = .ok (.iload_n 1, 1) := by decide +kernel
theorem zd164_5 : decode zxm164.2.1 5 = .ok (.iaload, 1) := by decide +kernel
theorem zd164_6 : decode zxm164.2.1 6 = .ok (.aload_n 0, 1) := by decide +kernel
theorem zd164_7 : decode zxm164.2.1 7 = .ok (.getfield 52, 3) := by decide +kernel
theorem zd164_10 : decode zxm164.2.1 10 = .ok (.iload_n 1, 1) := by decide +kernel
theorem zd164_11 : decode zxm164.2.1 11 = .ok (.iaload, 1) := by decide +kernel
theorem zd164_12 : decode zxm164.2.1 12 = .ok (.invokestatic 165, 3) := by decide +kernel
theorem zd164_15 : decode zxm164.2.1 15 = .ok (.ireturn, 1) := by decide +kernel
theorem zt_Pilot_hoursTo {x1 : Int} {g0 : (Int → Int)} {g1 : (Int → Int)} {o : Int} (h : zf_Pilot_hoursTo x1 g0 g1 = some o) : zv_Fn z_TB z_cl z_KX zy_Pilot_hoursTo zxm164 (1, 60) [.inr 0, .inl x1] [] [g0, g1] (some o) [] [g0, g1] := zv_meth (K := (z_KF6, z_KC6, z_KL6, z_KT6, [], [], [], none)) (FT := z_FT) (MT := z_MT) (n := 2) zxp164 (z_ks6 _ (fun _ h => List.mem_cons_of_mem _ h) _ _ _ _ (fun j r h _ => by cases h)) (fun _ _ => zs_KX_p) zyw_Pilot_hoursTo (fun va F G h => by obtain ⟨rfl, _⟩ := h; rfl) (fun va F G h => by obtain ⟨rfl, _⟩ := h; rfl) rfl fun good va F G hB hret hvret hP => by
  obtain ⟨rfl, rfl, rfl⟩ := hP
  unfold zf_Pilot_hoursTo at h
  refine zv_ald hB zd164_0 rfl rfl rfl ?_
  refine zv_getr hB zd164_1 rfl ?_
  refine zv_ild hB zd164_4 rfl rfl ?_
  obtain ⟨c1, h⟩ := zi_if h
  refine zv_iald hB zd164_5 rfl rfl (zi_ix_ok c1).1 (zi_ix_ok c1).2 (fun _ _ => ?_)
  refine zv_ald hB zd164_6 rfl rfl rfl ?_
  refine zv_getr hB zd164_7 rfl ?_
  refine zv_ild hB zd164_10 rfl rfl ?_
  refine zv_iald hB zd164_11 rfl rfl (zi_ix_ok c1).1 (zi_ix_ok c1).2 (fun _ _ => ?_)
  obtain ⟨r2, hr2, h⟩ := zi_bind h
  refine zv_cs hB (zv_emq (va2 := [.inl (g0 x1), .inl (g1 x1)]) (F := []) (F' := []) (G := [g0, g1]) (G' := [g0, g1]) (ρ := []) (φ := []) (ψ := []) [] [none, none] zyw_Math_max zyw_Pilot_hoursTo zye_Pilot_hoursTo (by decide +kernel) (zt_Math_max hr2) trivial trivial rfl rfl rfl rfl rfl rfl rfl) zd164_12 zxt55 rfl (by decide) (by decide) rfl ?_
  have hw := Option.some.inj h
  subst hw
  exact hret _ _ _ _ _ zd164_15 (by trivial) ⟨rfl, rfl, rfl⟩
/-! Pilot_meetingPlace (LStarTales$Sea;II)I -/
-- names: 0 Pilot('arg', 0), 1 Sea('arg', 1), 2 (0, 288)(0, 9, 12), 3 (0, 288)(0, 9, 14), 4 (0, 12)(1, 2, 0), 5 (0, 288)(0, 9, 13)
-- fields: ; arrays: g0 = 2, g1 = 3, g2 = 4, g3 = 5; out: [('ret', None), ('g', 0), ('g', 1), ('g', 3)]
abbrev zy_Pilot_meetingPlace : zNL := (6, [(0, 9), (1, 2)], [], [(0, 9, 12, 2), (0, 9, 14, 3), (1, 2, 0, 4), (0, 9, 13, 5)], [(2, 0, 288, 0), (3, 0, 288, 1), (4, 0, 12, 2), (5, 0, 288, 3)])
theorem zyw_Pilot_meetingPlace : zv_wf zy_Pilot_meetingPlace = true := by decide +kernel
theorem zye_Pilot_meetingPlace : zv_ek2 zy_Pilot_meetingPlace = true := by decide +kernel
def zf_Pilot_meetingPlace_l0_b (g0 : (Int → Int)) (g3 : (Int → Int)) (rec : Int → Int → Option (Int)) (x4 : Int) (x5 : Int) : Option (Int) := if x5 < 288 then (cond (zi_ix x5 288) (if (g0 x5) = (-1) then (rec x4 (zi_w (x5 + 1))) else (if (g3 x5) = (-1) then (rec x4 (zi_w (x5 + 1))) else (if x4 = (-1) then (rec x5 (zi_w (x5 + 1))) else ((zf_Pilot_hoursTo x5 g0 g3).bind fun r11 => ((zf_Pilot_hoursTo x4 g0 g3).bind fun r12 => (if r11 < r12 then (rec x5 (zi_w (x5 + 1))) else (rec x4 (zi_w (x5 + 1))))))))) none) else (some x4)
def zf_Pilot_meetingPlace_l0 (g0 : (Int → Int)) (g3 : (Int → Int)) : Nat → Int → Int → Option (Int)
  | 0, _, _ => none
  | n + 1, x4, x5 => zf_Pilot_meetingPlace_l0_b g0 g3 (zf_Pilot_meetingPlace_l0 g0 g3 n) x4 x5
def zf_Pilot_meetingPlace (x2 : Int) (x3 : Int) (g0 : (Int → Int)) (g1 : (Int → Int)) (g2 : (Int → Int)) (g3 : (Int → Int)) : Option (Int × (Int → Int) × (Int → Int) × (Int → Int)) := (zf_Pilot_spread_288 x2 g0 g1 g2).bind fun r1 => ((zf_Pilot_spread_288 x3 g3 r1.2 g2).bind fun r2 => ((zf_Pilot_meetingPlace_l0 r1.1 r2.1 zi_fu (-1) 0).bind fun q14 => (some (q14, r1.1, r2.2, r2.1))))
theorem zd162_0 : decode zxm162.2.1 0 = .ok (.aload_n 0, 1) := by decide +kernel
theorem zd162_1 : decode zxm162.2.1 1 = .ok (.aload_n 1, 1) := by decide +kernel
theorem zd162_2 : decode zxm162.2.1 2 = .ok (.iload_n 2, 1) := by decide +kernel
theorem zd162_3 : decode zxm162.2.1 3 = .ok (.aload_n 0, 1) := by decide +kernel
theorem zd162_4 : decode zxm162.2.1 4 = .ok (.getfield 49, 3) := by decide +kernel
theorem zd162_7 : decode zxm162.2.1 7 = .ok (.invokevirtual 158, 3) := by decide +kernel
theorem zd162_10 : decode zxm162.2.1 10 = .ok (.aload_n 0, 1) := by decide +kernel
theorem zd162_11 : decode zxm162.2.1 11 = .ok (.aload_n 1, 1) := by decide +kernel
theorem zd162_12 : decode zxm162.2.1 12 = .ok (.iload_n 3, 1) := by decide +kernel
theorem zd162_13 : decode zxm162.2.1 13 = .ok (.aload_n 0, 1) := by decide +kernel
theorem zd162_14 : decode zxm162.2.1 14 = .ok (.getfield 52, 3) := by decide +kernel
theorem zd162_17 : decode zxm162.2.1 17 = .ok (.invokevirtual 158, 3) := by decide +kernel
theorem zd162_20 : decode zxm162.2.1 20 = .ok (.iconst (-1), 1) := by decide +kernel
theorem zd162_21 : decode zxm162.2.1 21 = .ok (.istore 4, 2) := by decide +kernel
theorem zd162_23 : decode zxm162.2.1 23 = .ok (.iconst 0, 1) := by decide +kernel
theorem zd162_24 : decode zxm162.2.1 24 = .ok (.istore 5, 2) := by decide +kernel
theorem zd162_26 : decode zxm162.2.1 26 = .ok (.iload 5, 2) := by decide +kernel
theorem zd162_28 : decode zxm162.2.1 28 = .ok (.sipush 288, 3) := by decide +kernel
theorem zd162_31 : decode zxm162.2.1 31 = .ok (.if_icmp .ge 68, 3) := by decide +kernel
theorem zd162_34 : decode zxm162.2.1 34 = .ok (.aload_n 0, 1) := by decide +kernel
theorem zd162_35 : decode zxm162.2.1 35 = .ok (.getfield 49, 3) := by decide +kernel
theorem zd162_38 : decode zxm162.2.1 38 = .ok (.iload 5, 2) := by decide +kernel
theorem zd162_40 : decode zxm162.2.1 40 = .ok (.iaload, 1) := by decide +kernel
theorem zd162_41 : decode zxm162.2.1 41 = .ok (.iconst (-1), 1) := by decide +kernel
theorem zd162_42 : decode zxm162.2.1 42 = .ok (.if_icmp .eq 18, 3) := by decide +kernel
theorem zd162_45 : decode zxm162.2.1 45 = .ok (.aload_n 0, 1) := by decide +kernel
theorem zd162_46 : decode zxm162.2.1 46 = .ok (.getfield 52, 3) := by decide +kernel
theorem zd162_49 : decode zxm162.2.1 49 = .ok (.iload 5, 2) := by decide +kernel
theorem zd162_51 : decode zxm162.2.1 51 = .ok (.iaload, 1) := by decide +kernel
theorem zd162_52 : decode zxm162.2.1 52 = .ok (.iconst (-1), 1) := by decide +kernel
theorem zd162_53 : decode zxm162.2.1 53 = .ok (.if_icmp .eq 7, 3) := by decide +kernel
theorem zd162_56 : decode zxm162.2.1 56 = .ok (.iconst 1, 1) := by decide +kernel
theorem zd162_57 : decode zxm162.2.1 57 = .ok (.goto 4, 3) := by decide +kernel
theorem zd162_60 : decode zxm162.2.1 60 = .ok (.iconst 0, 1) := by decide +kernel
theorem zd162_61 : decode zxm162.2.1 61 = .ok (.istore 6, 2) := by decide +kernel
theorem zd162_63 : decode zxm162.2.1 63 = .ok (.iload 6, 2) := by decide +kernel
theorem zd162_65 : decode zxm162.2.1 65 = .ok (.ifCond .eq 28, 3) := by decide +kernel
theorem zd162_68 : decode zxm162.2.1 68 = .ok (.iload 4, 2) := by decide +kernel
theorem zd162_70 : decode zxm162.2.1 70 = .ok (.iconst (-1), 1) := by decide +kernel
theorem zd162_71 : decode zxm162.2.1 71 = .ok (.if_icmp .eq 18, 3) := by decide +kernel
theorem zd162_74 : decode zxm162.2.1 74 = .ok (.aload_n 0, 1) := by decide +kernel
theorem zd162_75 : decode zxm162.2.1 75 = .ok (.iload 5, 2) := by decide +kernel
theorem zd162_77 : decode zxm162.2.1 77 = .ok (.invokevirtual 162, 3) := by decide +kernel
theorem zd162_80 : decode zxm162.2.1 80 = .ok (.aload_n 0, 1) := by decide +kernel
theorem zd162_81 : decode zxm162.2.1 81 = .ok (.iload 4, 2) := by decide +kernel
theorem zd162_83 : decode zxm162.2.1 83 = .ok (.invokevirtual 162, 3) := by decide +kernel
theorem zd162_86 : decode zxm162.2.1 86 = .ok (.if_icmp .ge 7, 3) := by decide +kernel
theorem zd162_89 : decode zxm162.2.1 89 = .ok (.iload 5, 2) := by decide +kernel
theorem zd162_91 : decode zxm162.2.1 91 = .ok (.istore 4, 2) := by decide +kernel
theorem zd162_93 : decode zxm162.2.1 93 = .ok (.iinc 5 1, 3) := by decide +kernel
theorem zd162_96 : decode zxm162.2.1 96 = .ok (.goto (-70), 3) := by decide +kernel
theorem zd162_99 : decode zxm162.2.1 99 = .ok (.iload 4, 2) := by decide +kernel
theorem zd162_101 : decode zxm162.2.1 101 = .ok (.ireturn, 1) := by decide +kernel
theorem zt_Pilot_meetingPlace {x2 : Int} {x3 : Int} {g0 : (Int → Int)} {g1 : (Int → Int)} {g2 : (Int → Int)} {g3 : (Int → Int)} {o : Int × (Int → Int) × (Int → Int) × (Int → Int)} (h : zf_Pilot_meetingPlace x2 x3 g0 g1 g2 g3 = some o) : zv_Fn z_TB z_cl z_KX zy_Pilot_meetingPlace zxm162 (4, 240) [.inr 0, .inr 1, .inl x2, .inl x3] [] [g0, g1, g2, g3] (some o.1) [] [o.2.1, o.2.2.1, g2, o.2.2.2] := zv_meth (K := (z_KF6, z_KC6, z_KL6, z_KT6, [], [], [], none)) (FT := z_FT) (MT := z_MT) (n := 4) zxp162 (z_ks6 _ (fun _ h => List.mem_cons_of_mem _ h) _ _ _ _ (fun j r h _ => by cases h)) (fun _ _ => zs_KX_p) zyw_Pilot_meetingPlace (fun va F G h => by obtain ⟨rfl, _⟩ := h; rfl) (fun va F G h => by obtain ⟨rfl, _⟩ := h; rfl) rfl fun good va F G hB hret hvret hP => by
  obtain ⟨rfl, rfl, rfl⟩ := hP
  have l0 : ∀ (n : Nat) (x4 : Int) (x5 : Int) (g0 : (Int → Int)) (g1 : (Int → Int)) (g3 : (Int → Int)) (q : Int), zf_Pilot_meetingPlace_l0 g0 g3 n x4 x5 = some q → (good 99 [.inr 1000, .inr 1000, .inr 1000, .inr 1000, .inl q, .inr 1000, .inr 1000] [] [] [g0, g1, g2, g3]) → good 26 [.inr 0, .inr 1000, .inr 1000, .inr 1000, .inl x4, .inl x5, .inr 1000] [] [] [g0, g1, g2, g3] := by
    intro n
    induction n with
    | zero => intro x4 x5 g0 g1 g3 q h; exact absurd (show none = some q from h) (fun h => by cases h)
    | succ n ih =>
      intro x4 x5 g0 g1 g3 q h hK
      replace h : zf_Pilot_meetingPlace_l0_b g0 g3 (zf_Pilot_meetingPlace_l0 g0 g3 n) x4 x5 = some q := h
      unfold zf_Pilot_meetingPlace_l0_b at h
      refine zv_ild hB zd162_26 rfl rfl ?_
      refine zv_con hB zd162_28 rfl ?_
      refine zv_cge hB zd162_31 rfl (fun hc3 => ?_) (fun hc3 => ?_)
      · rw [if_neg (Int.not_lt.mpr hc3)] at h
        have hq := Option.some.inj h
        subst hq
        refine zv_wk hB (L' := [.inr 1000, .inr 1000, .inr 1000, .inr 1000, .inl x4, .inr 1000, .inr 1000]) (F' := []) ⟨fun (h : zv_is (.inr 1000)) => (Nat.lt_irrefl 1000 h).elim, fun (h : zv_is (.inr 1000)) => (Nat.lt_irrefl 1000 h).elim, fun (h : zv_is (.inr 1000)) => (Nat.lt_irrefl 1000 h).elim, fun (h : zv_is (.inr 1000)) => (Nat.lt_irrefl 1000 h).elim, fun _ => rfl, fun (h : zv_is (.inr 1000)) => (Nat.lt_irrefl 1000 h).elim, fun (h : zv_is (.inr 1000)) => (Nat.lt_irrefl 1000 h).elim, trivial⟩ trivial ?_
        exact hK
      · rw [if_pos hc3] at h
        refine zv_ald hB zd162_34 rfl rfl rfl ?_
        refine zv_getr hB zd162_35 rfl ?_
        refine zv_ild hB zd162_38 rfl rfl ?_
        obtain ⟨c4, h⟩ := zi_if h
        refine zv_iald hB zd162_40 rfl rfl (zi_ix_ok c4).1 (zi_ix_ok c4).2 (fun _ _ => ?_)
        refine zv_con hB zd162_41 rfl ?_
        refine zv_ceq hB zd162_42 rfl (fun hc5 => ?_) (fun hc5 => ?_)
        · rw [if_pos hc5] at h
          refine zv_con hB zd162_60 rfl ?_
          refine zv_ist hB zd162_61 rfl rfl rfl ?_
          refine zv_ild hB zd162_63 rfl rfl ?_
          refine zv_zeq hB zd162_65 rfl (fun _ => ?_) (fun hc => absurd hc (by decide))
          refine zv_iincw hB zd162_93 rfl rfl ?_
          refine zv_goto hB zd162_96 rfl ?_
          refine zv_wk hB (L' := [.inr 0, .inr 1000, .inr 1000, .inr 1000, .inl x4, .inl (zi_w (x5 + 1)), .inr 1000]) (F' := []) ⟨fun _ => rfl, fun (h : zv_is (.inr 1000)) => (Nat.lt_irrefl 1000 h).elim, fun (h : zv_is (.inr 1000)) => (Nat.lt_irrefl 1000 h).elim, fun (h : zv_is (.inr 1000)) => (Nat.lt_irrefl 1000 h).elim, fun _ => rfl, fun _ => rfl, fun (h : zv_is (.inr 1000)) => (Nat.lt_irrefl 1000 h).elim, trivial⟩ trivial ?_
          exact ih _ _ _ _ _ q h hK
        · rw [if_neg hc5] at h
          refine zv_ald hB zd162_45 rfl rfl rfl ?_
          refine zv_getr hB zd162_46 rfl ?_
          refine zv_ild hB zd162_49 rfl rfl ?_
          refine zv_iald hB zd162_51 rfl rfl (zi_ix_ok c4).1 (zi_ix_ok c4).2 (fun _ _ => ?_)
          refine zv_con hB zd162_52 rfl ?_
          refine zv_ceq hB zd162_53 rfl (fun hc7 => ?_) (fun hc7 => ?_)
          · rw [if_pos hc7] at h
            refine zv_con hB zd162_60 rfl ?_
            refine zv_ist hB zd162_61 rfl rfl rfl ?_
            refine zv_ild hB zd162_63 rfl rfl ?_
            refine zv_zeq hB zd162_65 rfl (fun _ => ?_) (fun hc => absurd hc (by decide))
            refine zv_iincw hB zd162_93 rfl rfl ?_
            refine zv_goto hB zd162_96 rfl ?_
            refine zv_wk hB (L' := [.inr 0, .inr 1000, .inr 1000, .inr 1000, .inl x4, .inl (zi_w (x5 + 1)), .inr 1000]) (F' := []) ⟨fun _ => rfl, fun (h : zv_is (.inr 1000)) => (Nat.lt_irrefl 1000 h).elim, fun (h : zv_is (.inr 1000)) => (Nat.lt_irrefl 1000 h).elim, fun (h : zv_is (.inr 1000)) => (Nat.lt_irrefl 1000 h).elim, fun _ => rfl, fun _ => rfl, fun (h : zv_is (.inr 1000)) => (Nat.lt_irrefl 1000 h).elim, trivial⟩ trivial ?_
            exact ih _ _ _ _ _ q h hK
          · rw [if_neg hc7] at h
            refine zv_con hB zd162_56 rfl ?_
            refine zv_goto hB zd162_57 rfl ?_
            refine zv_ist hB zd162_61 rfl rfl rfl ?_
            refine zv_ild hB zd162_63 rfl rfl ?_
            refine zv_zeq hB zd162_65 rfl (fun hc => absurd hc (by decide)) (fun _ => ?_)
            refine zv_ild hB zd162_68 rfl rfl ?_
            refine zv_con hB zd162_70 rfl ?_
            refine zv_ceq hB zd162_71 rfl (fun hc10 => ?_) (fun hc10 => ?_)
            · rw [if_pos hc10] at h
              refine zv_ild hB zd162_89 rfl rfl ?_
              refine zv_ist hB zd162_91 rfl rfl rfl ?_
              refine zv_iincw hB zd162_93 rfl rfl ?_
              refine zv_goto hB zd162_96 rfl ?_
              refine zv_wk hB (L' := [.inr 0, .inr 1000, .inr 1000, .inr 1000, .inl x5, .inl (zi_w (x5 + 1)), .inr 1000]) (F' := []) ⟨fun _ => rfl, fun (h : zv_is (.inr 1000)) => (Nat.lt_irrefl 1000 h).elim, fun (h : zv_is (.inr 1000)) => (Nat.lt_irrefl 1000 h).elim, fun (h : zv_is (.inr 1000)) => (Nat.lt_irrefl 1000 h).elim, fun _ => rfl, fun _ => rfl, fun (h : zv_is (.inr 1000)) => (Nat.lt_irrefl 1000 h).elim, trivial⟩ trivial ?_
              exact ih _ _ _ _ _ q h hK
            · rw [if_neg hc10] at h
              refine zv_ald hB zd162_74 rfl rfl rfl ?_
              refine zv_ild hB zd162_75 rfl rfl ?_
              obtain ⟨r11, hr11, h⟩ := zi_bind h
              refine zv_cv hB (zv_emq (va2 := [.inr 0, .inl x5]) (F := []) (F' := []) (G := [g0, g1, g2, g3]) (G' := [g0, g1, g2, g3]) (ρ := [0, 2, 5]) (φ := []) (ψ := [0, 3]) [] [some 0, none, none, some 1] zyw_Pilot_hoursTo zyw_Pilot_meetingPlace zye_Pilot_meetingPlace (by decide +kernel) (zt_Pilot_hoursTo hr11) trivial ⟨rfl, rfl, trivial⟩ rfl rfl rfl rfl rfl rfl rfl) zd162_77 zxt164 rfl (by decide) (by decide) rfl ?_
              refine zv_ald hB zd162_80 rfl rfl rfl ?_
              refine zv_ild hB zd162_81 rfl rfl ?_
              obtain ⟨r12, hr12, h⟩ := zi_bind h
              refine zv_cv hB (zv_emq (va2 := [.inr 0, .inl x4]) (F := []) (F' := []) (G := [g0, g1, g2, g3]) (G' := [g0, g1, g2, g3]) (ρ := [0, 2, 5]) (φ := []) (ψ := [0, 3]) [] [some 0, none, none, some 1] zyw_Pilot_hoursTo zyw_Pilot_meetingPlace zye_Pilot_meetingPlace (by decide +kernel) (zt_Pilot_hoursTo hr12) trivial ⟨rfl, rfl, trivial⟩ rfl rfl rfl rfl rfl rfl rfl) zd162_83 zxt164 rfl (by decide) (by decide) rfl ?_
              refine zv_cge hB zd162_86 rfl (fun hc13 => ?_) (fun hc13 => ?_)
              · rw [if_neg (Int.not_lt.mpr hc13)] at h
                refine zv_iincw hB zd162_93 rfl rfl ?_
                refine zv_goto hB zd162_96 rfl ?_
                refine zv_wk hB (L' := [.inr 0, .inr 1000, .inr 1000, .inr 1000, .inl x4, .inl (zi_w (x5 + 1)), .inr 1000]) (F' := []) ⟨fun _ => rfl, fun (h : zv_is (.inr 1000)) => (Nat.lt_irrefl 1000 h).elim, fun (h : zv_is (.inr 1000)) => (Nat.lt_irrefl 1000 h).elim, fun (h : zv_is (.inr 1000)) => (Nat.lt_irrefl 1000 h).elim, fun _ => rfl, fun _ => rfl, fun (h : zv_is (.inr 1000)) => (Nat.lt_irrefl 1000 h).elim, trivial⟩ trivial ?_
                exact ih _ _ _ _ _ q h hK
              · rw [if_pos hc13] at h
                refine zv_ild hB zd162_89 rfl rfl ?_
                refine zv_ist hB zd162_91 rfl rfl rfl ?_
                refine zv_iincw hB zd162_93 rfl rfl ?_
                refine zv_goto hB zd162_96 rfl ?_
                refine zv_wk hB (L' := [.inr 0, .inr 1000, .inr 1000, .inr 1000, .inl x5, .inl (zi_w (x5 + 1)), .inr 1000]) (F' := []) ⟨fun _ => rfl, fun (h : zv_is (.inr 1000)) => (Nat.lt_irrefl 1000 h).elim, fun (h : zv_is (.inr 1000)) => (Nat.lt_irrefl 1000 h).elim, fun (h : zv_is (.inr 1000)) => (Nat.lt_irrefl 1000 h).elim, fun _ => rfl, fun _ => rfl, fun (h : zv_is (.inr 1000)) => (Nat.lt_irrefl 1000 h).elim, trivial⟩ trivial ?_
                exact ih _ _ _ _ _ q h hK
  unfold zf_Pilot_meetingPlace at h
  refine zv_ald hB zd162_0 rfl rfl rfl ?_
  refine zv_ald hB zd162_1 rfl rfl rfl ?_
  refine zv_ild hB zd162_2 rfl rfl ?_
  refine zv_ald hB zd162_3 rfl rfl rfl ?_
  refine zv_getr hB zd162_4 rfl ?_
  obtain ⟨r1, hr1, h⟩ := zi_bind h
  refine zv_cv hB (zv_emq (va2 := [.inr 0, .inr 1, .inl x2, .inr 2]) (F := []) (F' := []) (G := [g0, g1, g2, g3]) (G' := [r1.1, r1.2, g2, g3]) (ρ := [0, 1, 2, 3, 4]) (φ := []) (ψ := [0, 1, 2]) [] [some 0, some 1, some 2, none] zyw_Pilot_spread_288 zyw_Pilot_meetingPlace zye_Pilot_meetingPlace (by decide +kernel) (zt_Pilot_spread_288 hr1) trivial ⟨rfl, rfl, rfl, trivial⟩ rfl rfl rfl rfl rfl rfl rfl) zd162_7 zxt163 rfl (by decide) (by decide) rfl ?_
  refine zv_ald hB zd162_10 rfl rfl rfl ?_
  refine zv_ald hB zd162_11 rfl rfl rfl ?_
  refine zv_ild hB zd162_12 rfl rfl ?_
  refine zv_ald hB zd162_13 rfl rfl rfl ?_
  refine zv_getr hB zd162_14 rfl ?_
  obtain ⟨r2, hr2, h⟩ := zi_bind h
  refine zv_cv hB (zv_emq (va2 := [.inr 0, .inr 1, .inl x3, .inr 5]) (F := []) (F' := []) (G := [r1.1, r1.2, g2, g3]) (G' := [r1.1, r2.2, g2, r2.1]) (ρ := [0, 1, 5, 3, 4]) (φ := []) (ψ := [3, 1, 2]) [] [none, some 1, some 2, some 0] zyw_Pilot_spread_288 zyw_Pilot_meetingPlace zye_Pilot_meetingPlace (by decide +kernel) (zt_Pilot_spread_288 hr2) trivial ⟨rfl, rfl, rfl, trivial⟩ rfl rfl rfl rfl rfl rfl rfl) zd162_17 zxt163 rfl (by decide) (by decide) rfl ?_
  refine zv_con hB zd162_20 rfl ?_
  refine zv_ist hB zd162_21 rfl rfl rfl ?_
  refine zv_con hB zd162_23 rfl ?_
  refine zv_ist hB zd162_24 rfl rfl rfl ?_
  obtain ⟨q14, hq14, h⟩ := zi_bind h
  refine zv_wk hB (L' := [.inr 0, .inr 1000, .inr 1000, .inr 1000, .inl (-1), .inl 0, .inr 1000]) (F' := []) ⟨fun _ => rfl, fun (h : zv_is (.inr 1000)) => (Nat.lt_irrefl 1000 h).elim, fun (h : zv_is (.inr 1000)) => (Nat.lt_irrefl 1000 h).elim, fun (h : zv_is (.inr 1000)) => (Nat.lt_irrefl 1000 h).elim, fun _ => rfl, fun _ => rfl, fun (h : zv_is (.inr 1000)) => (Nat.lt_irrefl 1000 h).elim, trivial⟩ trivial ?_
  refine l0 _ _ _ _ _ _ q14 hq14 ?_
  show good 99 [.inr 1000, .inr 1000, .inr 1000, .inr 1000, .inl q14, .inr 1000, .inr 1000] [] [] [r1.1, r2.2, g2, r2.1]
  refine zv_ild hB zd162_99 rfl rfl ?_
  have hw := Option.some.inj h
  subst hw
  exact hret _ _ _ _ _ zd162_101 (by trivial) ⟨rfl, rfl, rfl⟩
