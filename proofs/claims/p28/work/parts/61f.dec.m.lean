/-! 61f.dec, 61g.dec, 61h.dec, 61i.dec, 61j.dec, 61k.dec -/
section
/-! Methods as functions, and that they do what these do. -/
/-! X_found ()I -/
-- names: 0 StarTales('arg', 0), 1 Sky(0, 0, 0), 2 Tape(0, 0, 6), 3 (0, 220)(2, 3, 0), 4 (0, 24)(1, 1, 1), 5 (0, 24)(1, 1, 4), 6 (0, 24)(1, 1, 2), 7 (0, 24)(1, 1, 5)
-- fields: f0 = 1.told_, f1 = 2.size_; arrays: g0 = 3, g1 = 4, g2 = 5, g3 = 6, g4 = 7; out: [('ret', None), ('f', 1)]
abbrev zy_X_found : zNL := (8, [(0, 0), (1, 1), (2, 3)], [(1, 1, 0, 0), (2, 3, 1, 1)], [(0, 0, 0, 1), (0, 0, 6, 2), (2, 3, 0, 3), (1, 1, 1, 4), (1, 1, 4, 5), (1, 1, 2, 6), (1, 1, 5, 7)], [(3, 0, 220, 0), (4, 0, 24, 1), (5, 0, 24, 2), (6, 0, 24, 3), (7, 0, 24, 4)])
theorem zyw_X_found : zv_wf zy_X_found = true := by decide +kernel
theorem zye_X_found : zv_ek2 zy_X_found = true := by decide +kernel
def zf_X_found_l0_b (f0 : Int) (g0 : (Int → Int)) (g1 : (Int → Int)) (g2 : (Int → Int)) (g3 : (Int → Int)) (g4 : (Int → Int)) (rec : Int → Int → Int → Option (Int)) (x1 : Int) (x2 : Int) (x3 : Int) : Option (Int) := if x3 < 24 then ((zf_Sky_hasStar x3 f0).bind fun r6 => (if r6 = 0 then (rec x1 x2 (zi_w (x3 + 1))) else ((zf_Tape_byteAt x2 g0).bind fun r8 => ((zf_Sky_columnNextNight x3 g1 g2).bind fun r9 => (if r8 = r9 then ((zf_Tape_byteAt (zi_w (x2 + 1)) g0).bind fun r12 => ((zf_Sky_rowNextNight x3 g3 g4).bind fun r13 => (if r12 = r13 then (rec x1 (zi_w (x2 + 2)) (zi_w (x3 + 1))) else (rec (zi_or x1 (zi_shl 1 x3)) (zi_w (x2 + 2)) (zi_w (x3 + 1)))))) else (rec (zi_or x1 (zi_shl 1 x3)) (zi_w (x2 + 2)) (zi_w (x3 + 1)))))))) else (some x1)
def zf_X_found_l0 (f0 : Int) (g0 : (Int → Int)) (g1 : (Int → Int)) (g2 : (Int → Int)) (g3 : (Int → Int)) (g4 : (Int → Int)) : Nat → Int → Int → Int → Option (Int)
  | 0, _, _, _ => none
  | n + 1, x1, x2, x3 => zf_X_found_l0_b f0 g0 g1 g2 g3 g4 (zf_X_found_l0 f0 g0 g1 g2 g3 g4 n) x1 x2 x3
def zf_X_found (f0 : Int) (f1 : Int) (g0 : (Int → Int)) (g1 : (Int → Int)) (g2 : (Int → Int)) (g3 : (Int → Int)) (g4 : (Int → Int)) : Option (Int × Int) := if f0 = 0 then (some ((-1), f1)) else ((zf_Integer_bitCount f0).bind fun r2 => ((zf_Tape_take (zi_w (2 * r2)) f1).bind fun r3 => (if r3.1 = 0 then (some ((-1), r3.2)) else ((zf_X_found_l0 f0 g0 g1 g2 g3 g4 zi_fu 0 0 0).bind fun q17 => (some (q17, r3.2))))))
theorem zd160_0 : decode zxm160.2.1 0 = .ok (.aload_n 0, 1) := by decide +kernel
theorem zd160_1 : decode zxm160.2.1 1 = .ok (.getfield 10, 3) := by decide +kernel
theorem zd160_4 : decode zxm160.2.1 4 = .ok (.getfield 134, 3) := by decide +kernel
theorem zd160_7 : decode zxm160.2.1 7 = .ok (.ifCond .eq 25, 3) := by decide +kernel
theorem zd160_10 : decode zxm160.2.1 10 = .ok (.aload_n 0, 1) := by decide +kernel
theorem zd160_11 : decode zxm160.2.1 11 = .ok (.getfield 39, 3) := by decide +kernel
theorem zd160_14 : decode zxm160.2.1 14 = .ok (.iconst 2, 1) := by decide +kernel
theorem zd160_15 : decode zxm160.2.1 15 = .ok (.aload_n 0, 1) := by decide +kernel
theorem zd160_16 : decode zxm160.2.1 16 = .ok (.getfield 10, 3) := by decide +kernel
theorem zd160_19 : decode zxm160.2.1 19 = .ok (.getfield 134, 3) := by decide +kernel
theorem zd160_22 : decode zxm160.2.1 22 = .ok (.invokestatic 235, 3) := by decide +kernel
theorem zd160_25 : decode zxm160.2.1 25 = .ok (.imul, 1) := by decide +kernel
theorem zd160_26 : decode zxm160.2.1 26 = .ok (.invokevirtual 197, 3) := by decide +kernel
theorem zd160_29 : decode zxm160.2.1 29 = .ok (.ifCond .ne 5, 3) := by decide +kernel
theorem zd160_32 : decode zxm160.2.1 32 = .ok (.iconst (-1), 1) := by decide +kernel
theorem zd160_33 : decode zxm160.2.1 33 = .ok (.ireturn, 1) := by decide +kernel
theorem zd160_34 : decode zxm160.2.1 34 = .ok (.iconst 0, 1) := by decide +kernel
theorem zd160_35 : decode zxm160.2.1 35 = .ok (.istore_n 1, 1) := by decide +kernel
theorem zd160_36 : decode zxm160.2.1 36 = .ok (.iconst 0, 1) := by decide +kernel
theorem zd160_37 : decode zxm160.2.1 37 = .ok (.istore_n 2, 1) := by decide +kernel
theorem zd160_38 : decode zxm160.2.1 38 = .ok (.iconst 0, 1) := by decide +kernel
theorem zd160_39 : decode zxm160.2.1 39 = .ok (.istore_n 3, 1) := by decide +kernel
theorem zd160_40 : decode zxm160.2.1 40 = .ok (.iload_n 3, 1) := by decide +kernel
theorem zd160_41 : decode zxm160.2.1 41 = .ok (.bipush 24, 2) := by decide +kernel
theorem zd160_43 : decode zxm160.2.1 43 = .ok (.if_icmp .ge 81, 3) := by decide +kernel
theorem zd160_46 : decode zxm160.2.1 46 = .ok (.aload_n 0, 1) := by decide +kernel
theorem zd160_47 : decode zxm160.2.1 47 = .ok (.getfield 10, 3) := by decide +kernel
theorem zd160_50 : decode zxm160.2.1 50 = .ok (.iload_n 3, 1) := by decide +kernel
theorem zd160_51 : decode zxm160.2.1 51 = .ok (.invokevirtual 153, 3) := by decide +kernel
theorem zd160_54 : decode zxm160.2.1 54 = .ok (.ifCond .eq 64, 3) := by decide +kernel
theorem zd160_57 : decode zxm160.2.1 57 = .ok (.aload_n 0, 1) := by decide +kernel
theorem zd160_58 : decode zxm160.2.1 58 = .ok (.getfield 39, 3) := by decide +kernel
theorem zd160_61 : decode zxm160.2.1 61 = .ok (.iload_n 2, 1) := by decide +kernel
theorem zd160_62 : decode zxm160.2.1 62 = .ok (.invokevirtual 303, 3) := by decide +kernel
theorem zd160_65 : decode zxm160.2.1 65 = .ok (.aload_n 0, 1) := by decide +kernel
theorem zd160_66 : decode zxm160.2.1 66 = .ok (.getfield 10, 3) := by decide +kernel
theorem zd160_69 : decode zxm160.2.1 69 = .ok (.iload_n 3, 1) := by decide +kernel
theorem zd160_70 : decode zxm160.2.1 70 = .ok (.invokevirtual 340, 3) := by decide +kernel
theorem zd160_73 : decode zxm160.2.1 73 = .ok (.if_icmp .ne 28, 3) := by decide +kernel
theorem zd160_76 : decode zxm160.2.1 76 = .ok (.aload_n 0, 1) := by decide +kernel
theorem zd160_77 : decode zxm160.2.1 77 = .ok (.getfield 39, 3) := by decide +kernel
theorem zd160_80 : decode zxm160.2.1 80 = .ok (.iload_n 2, 1) := by decide +kernel
theorem zd160_81 : decode zxm160.2.1 81 = .ok (.iconst 1, 1) := by decide +kernel
theorem zd160_82 : decode zxm160.2.1 82 = .ok (.iadd, 1) := by decide +kernel
theorem zd160_83 : decode zxm160.2.1 83 = .ok (.invokevirtual 303, 3) := by decide +kernel
theorem zd160_86 : decode zxm160.2.1 86 = .ok (.aload_n 0, 1) := by decide +kernel
theorem zd160_87 : decode zxm160.2.1 87 = .ok (.getfield 10, 3) := by decide +kernel
theorem zd160_90 : decode zxm160.2.1 90 = .ok (.iload_n 3, 1) := by decide +kernel
theorem zd160_91 : decode zxm160.2.1 91 = .ok (.invokevirtual 343, 3) := by decide +kernel
theorem zd160_94 : decode zxm160.2.1 94 = .ok (.if_icmp .ne 7, 3) := by decide +kernel
theorem zd160_97 : decode zxm160.2.1 97 = .ok (.iconst 1, 1) := by decide +kernel
theorem zd160_98 : decode zxm160.2.1 98 = .ok (.goto 4, 3) := by decide +kernel
theorem zd160_101 : decode zxm160.2.1 101 = .ok (.iconst 0, 1) := by decide +kernel
theorem zd160_102 : decode zxm160.2.1 102 = .ok (.istore 4, 2) := by decide +kernel
theorem zd160_104 : decode zxm160.2.1 104 = .ok (.iload 4, 2) := by decide +kernel
theorem zd160_106 : decode zxm160.2.1 106 = .ok (.ifCond .ne 9, 3) := by decide +kernel
theorem zd160_109 : decode zxm160.2.1 109 = .ok (.iload_n 1, 1) := by decide +kernel
theorem zd160_110 : decode zxm160.2.1 110 = .ok (.iconst 1, 1) := by decide +kernel
theorem zd160_111 : decode zxm160.2.1 111 = .ok (.iload_n 3, 1) := by decide +kernel
theorem zd160_112 : decode zxm160.2.1 112 = .ok (.ishl, 1) := by decide +kernel
theorem zd160_113 : decode zxm160.2.1 113 = .ok (.ior, 1) := by decide +kernel
theorem zd160_114 : decode zxm160.2.1 114 = .ok (.istore_n 1, 1) := by decide +kernel
theorem zd160_115 : decode zxm160.2.1 115 = .ok (.iinc 2 2, 3) := by decide +kernel
theorem zd160_118 : decode zxm160.2.1 118 = .ok (.iinc 3 1, 3) := by decide +kernel
theorem zd160_121 : decode zxm160.2.1 121 = .ok (.goto (-81), 3) := by decide +kernel
theorem zd160_124 : decode zxm160.2.1 124 = .ok (.iload_n 1, 1) := by decide +kernel
theorem zd160_125 : decode zxm160.2.1 125 = .ok (.ireturn, 1) := by decide +kernel
theorem zt_X_found {f0 : Int} {f1 : Int} {g0 : (Int → Int)} {g1 : (Int → Int)} {g2 : (Int → Int)} {g3 : (Int → Int)} {g4 : (Int → Int)} {o : Int × Int} (h : zf_X_found f0 f1 g0 g1 g2 g3 g4 = some o) : zv_Fn z_TB z_cl z_KX zy_X_found zxm160 (2, 120) [.inr 0] [.inl f0, .inl f1] [g0, g1, g2, g3, g4] (some o.1) [.inl f0, .inl o.2] [g0, g1, g2, g3, g4] := zv_meth (K := (z_KF0, z_KC0, z_KL0, z_KT0, [], [], [], none)) (FT := z_FT) (MT := z_MT) (n := 1) zxp160 (z_ks0 _ (fun _ h => List.mem_cons_of_mem _ h) _ _ _ _ (fun j r h _ => by cases h)) (fun _ _ => zs_KX_p) zyw_X_found (fun va F G h => by obtain ⟨rfl, _⟩ := h; rfl) (fun va F G h => by obtain ⟨rfl, _⟩ := h; rfl) rfl fun good va F G hB hret hvret hP => by
  obtain ⟨rfl, rfl, rfl⟩ := hP
  have l0 : ∀ (n : Nat) (x1 : Int) (x2 : Int) (x3 : Int) (f1 : Int) (q : Int), zf_X_found_l0 f0 g0 g1 g2 g3 g4 n x1 x2 x3 = some q → (good 124 [.inr 1000, .inl q, .inr 1000, .inr 1000, .inr 1000] [] [.inl f0, .inl f1] [g0, g1, g2, g3, g4]) → good 40 [.inr 0, .inl x1, .inl x2, .inl x3, .inr 1000] [] [.inl f0, .inl f1] [g0, g1, g2, g3, g4] := by
    intro n
    induction n with
    | zero => intro x1 x2 x3 f1 q h; exact absurd (show none = some q from h) (fun h => by cases h)
    | succ n ih =>
      intro x1 x2 x3 f1 q h hK
      replace h : zf_X_found_l0_b f0 g0 g1 g2 g3 g4 (zf_X_found_l0 f0 g0 g1 g2 g3 g4 n) x1 x2 x3 = some q := h
      unfold zf_X_found_l0_b at h
      refine zv_ild hB zd160_40 rfl rfl ?_
      refine zv_con hB zd160_41 rfl ?_
      refine zv_cge hB zd160_43 rfl (fun hc5 => ?_) (fun hc5 => ?_)
      · rw [if_neg (Int.not_lt.mpr hc5)] at h
        have hq := Option.some.inj h
        subst hq
        refine zv_wk hB (L' := [.inr 1000, .inl x1, .inr 1000, .inr 1000, .inr 1000]) (F' := [.inl f0, .inl f1]) ⟨fun (h : zv_is (.inr 1000)) => (Nat.lt_irrefl 1000 h).elim, fun _ => rfl, fun (h : zv_is (.inr 1000)) => (Nat.lt_irrefl 1000 h).elim, fun (h : zv_is (.inr 1000)) => (Nat.lt_irrefl 1000 h).elim, fun (h : zv_is (.inr 1000)) => (Nat.lt_irrefl 1000 h).elim, trivial⟩ ⟨fun _ => rfl, fun _ => rfl, trivial⟩ ?_
        exact hK
      · rw [if_pos hc5] at h
        refine zv_ald hB zd160_46 rfl rfl rfl ?_
        refine zv_getr hB zd160_47 rfl ?_
        refine zv_ild hB zd160_50 rfl rfl ?_
        obtain ⟨r6, hr6, h⟩ := zi_bind h
        refine zv_cv hB (zv_emq (va2 := [.inr 1, .inl x3]) (F := [.inl f0, .inl f1]) (F' := [.inl f0, .inl f1]) (G := [g0, g1, g2, g3, g4]) (G' := [g0, g1, g2, g3, g4]) (ρ := [1]) (φ := [0]) (ψ := []) [some 0, none] [none, none, none, none, none] zyw_Sky_hasStar zyw_X_found zye_X_found (by decide +kernel) (zt_Sky_hasStar hr6) ⟨⟨_, rfl, fun _ => rfl⟩, trivial⟩ trivial rfl rfl rfl rfl rfl rfl rfl) zd160_51 zxt18 rfl (by decide) (by decide) rfl ?_
        refine zv_zeq hB zd160_54 rfl (fun hc7 => ?_) (fun hc7 => ?_)
        · rw [if_pos hc7] at h
          refine zv_iincw hB zd160_118 rfl rfl ?_
          refine zv_goto hB zd160_121 rfl ?_
          exact ih _ _ _ _ q h hK
        · rw [if_neg hc7] at h
          refine zv_ald hB zd160_57 rfl rfl rfl ?_
          refine zv_getr hB zd160_58 rfl ?_
          refine zv_ild hB zd160_61 rfl rfl ?_
          obtain ⟨r8, hr8, h⟩ := zi_bind h
          refine zv_cv hB (zv_emq (va2 := [.inr 2, .inl x2]) (F := [.inl f0, .inl f1]) (F' := [.inl f0, .inl f1]) (G := [g0, g1, g2, g3, g4]) (G' := [g0, g1, g2, g3, g4]) (ρ := [2, 3]) (φ := []) (ψ := [0]) [none, none] [some 0, none, none, none, none] zyw_Tape_byteAt zyw_X_found zye_X_found (by decide +kernel) (zt_Tape_byteAt hr8) trivial ⟨rfl, trivial⟩ rfl rfl rfl rfl rfl rfl rfl) zd160_62 zxt138 rfl (by decide) (by decide) rfl ?_
          refine zv_ald hB zd160_65 rfl rfl rfl ?_
          refine zv_getr hB zd160_66 rfl ?_
          refine zv_ild hB zd160_69 rfl rfl ?_
          obtain ⟨r9, hr9, h⟩ := zi_bind h
          refine zv_cv hB (zv_emq (va2 := [.inr 1, .inl x3]) (F := [.inl f0, .inl f1]) (F' := [.inl f0, .inl f1]) (G := [g0, g1, g2, g3, g4]) (G' := [g0, g1, g2, g3, g4]) (ρ := [1, 4, 5]) (φ := []) (ψ := [1, 2]) [none, none] [none, some 0, some 1, none, none] zyw_Sky_columnNextNight zyw_X_found zye_X_found (by decide +kernel) (zt_Sky_columnNextNight hr9) trivial ⟨rfl, rfl, trivial⟩ rfl rfl rfl rfl rfl rfl rfl) zd160_70 zxt157 rfl (by decide) (by decide) rfl ?_
          refine zv_cne hB zd160_73 rfl (fun hc10 => ?_) (fun hc10 => ?_)
          · rw [if_neg hc10] at h
            refine zv_con hB zd160_101 rfl ?_
            refine zv_ist hB zd160_102 rfl rfl rfl ?_
            refine zv_ild hB zd160_104 rfl rfl ?_
            refine zv_zne hB zd160_106 rfl (fun hc => absurd hc (by decide)) (fun _ => ?_)
            refine zv_ild hB zd160_109 rfl rfl ?_
            refine zv_con hB zd160_110 rfl ?_
            refine zv_ild hB zd160_111 rfl rfl ?_
            refine zv_shlw hB zd160_112 ?_
            refine zv_orw hB zd160_113 ?_
            refine zv_ist hB zd160_114 rfl rfl rfl ?_
            refine zv_iincw hB zd160_115 rfl rfl ?_
            refine zv_iincw hB zd160_118 rfl rfl ?_
            refine zv_goto hB zd160_121 rfl ?_
            refine zv_wk hB (L' := [.inr 0, .inl (zi_or x1 (zi_shl 1 x3)), .inl (zi_w (x2 + 2)), .inl (zi_w (x3 + 1)), .inr 1000]) (F' := [.inl f0, .inl f1]) ⟨fun _ => rfl, fun _ => rfl, fun _ => rfl, fun _ => rfl, fun (h : zv_is (.inr 1000)) => (Nat.lt_irrefl 1000 h).elim, trivial⟩ ⟨fun _ => rfl, fun _ => rfl, trivial⟩ ?_
            exact ih _ _ _ _ q h hK
          · rw [if_pos hc10] at h
            refine zv_ald hB zd160_76 rfl rfl rfl ?_
            refine zv_getr hB zd160_77 rfl ?_
            refine zv_ild hB zd160_80 rfl rfl ?_
            refine zv_con hB zd160_81 rfl ?_
            refine zv_addw hB zd160_82 ?_
            obtain ⟨r12, hr12, h⟩ := zi_bind h
            refine zv_cv hB (zv_emq (va2 := [.inr 2, .inl (zi_w (x2 + 1))]) (F := [.inl f0, .inl f1]) (F' := [.inl f0, .inl f1]) (G := [g0, g1, g2, g3, g4]) (G' := [g0, g1, g2, g3, g4]) (ρ := [2, 3]) (φ := []) (ψ := [0]) [none, none] [some 0, none, none, none, none] zyw_Tape_byteAt zyw_X_found zye_X_found (by decide +kernel) (zt_Tape_byteAt hr12) trivial ⟨rfl, trivial⟩ rfl rfl rfl rfl rfl rfl rfl) zd160_83 zxt138 rfl (by decide) (by decide) rfl ?_
            refine zv_ald hB zd160_86 rfl rfl rfl ?_
            refine zv_getr hB zd160_87 rfl ?_
            refine zv_ild hB zd160_90 rfl rfl ?_
            obtain ⟨r13, hr13, h⟩ := zi_bind h
            refine zv_cv hB (zv_emq (va2 := [.inr 1, .inl x3]) (F := [.inl f0, .inl f1]) (F' := [.inl f0, .inl f1]) (G := [g0, g1, g2, g3, g4]) (G' := [g0, g1, g2, g3, g4]) (ρ := [1, 6, 7]) (φ := []) (ψ := [3, 4]) [none, none] [none, none, none, some 0, some 1] zyw_Sky_rowNextNight zyw_X_found zye_X_found (by decide +kernel) (zt_Sky_rowNextNight hr13) trivial ⟨rfl, rfl, trivial⟩ rfl rfl rfl rfl rfl rfl rfl) zd160_91 zxt158 rfl (by decide) (by decide) rfl ?_
            refine zv_cne hB zd160_94 rfl (fun hc14 => ?_) (fun hc14 => ?_)
            · rw [if_neg hc14] at h
              refine zv_con hB zd160_101 rfl ?_
              refine zv_ist hB zd160_102 rfl rfl rfl ?_
              refine zv_ild hB zd160_104 rfl rfl ?_
              refine zv_zne hB zd160_106 rfl (fun hc => absurd hc (by decide)) (fun _ => ?_)
              refine zv_ild hB zd160_109 rfl rfl ?_
              refine zv_con hB zd160_110 rfl ?_
              refine zv_ild hB zd160_111 rfl rfl ?_
              refine zv_shlw hB zd160_112 ?_
              refine zv_orw hB zd160_113 ?_
              refine zv_ist hB zd160_114 rfl rfl rfl ?_
              refine zv_iincw hB zd160_115 rfl rfl ?_
              refine zv_iincw hB zd160_118 rfl rfl ?_
              refine zv_goto hB zd160_121 rfl ?_
              refine zv_wk hB (L' := [.inr 0, .inl (zi_or x1 (zi_shl 1 x3)), .inl (zi_w (x2 + 2)), .inl (zi_w (x3 + 1)), .inr 1000]) (F' := [.inl f0, .inl f1]) ⟨fun _ => rfl, fun _ => rfl, fun _ => rfl, fun _ => rfl, fun (h : zv_is (.inr 1000)) => (Nat.lt_irrefl 1000 h).elim, trivial⟩ ⟨fun _ => rfl, fun _ => rfl, trivial⟩ ?_
              exact ih _ _ _ _ q h hK
            · rw [if_pos hc14] at h
              refine zv_con hB zd160_97 rfl ?_
              refine zv_goto hB zd160_98 rfl ?_
              refine zv_ist hB zd160_102 rfl rfl rfl ?_
              refine zv_ild hB zd160_104 rfl rfl ?_
              refine zv_zne hB zd160_106 rfl (fun _ => ?_) (fun hc => absurd hc (by decide))
              refine zv_iincw hB zd160_115 rfl rfl ?_
              refine zv_iincw hB zd160_118 rfl rfl ?_
              refine zv_goto hB zd160_121 rfl ?_
              refine zv_wk hB (L' := [.inr 0, .inl x1, .inl (zi_w (x2 + 2)), .inl (zi_w (x3 + 1)), .inr 1000]) (F' := [.inl f0, .inl f1]) ⟨fun _ => rfl, fun _ => rfl, fun _ => rfl, fun _ => rfl, fun (h : zv_is (.inr 1000)) => (Nat.lt_irrefl 1000 h).elim, trivial⟩ ⟨fun _ => rfl, fun _ => rfl, trivial⟩ ?_
              exact ih _ _ _ _ q h hK
  unfold zf_X_found at h
  refine zv_ald hB zd160_0 rfl rfl rfl ?_
  refine zv_getr hB zd160_1 rfl ?_
  refine zv_getf hB zd160_4 rfl rfl (fun _ _ => ?_)
  refine zv_zeq hB zd160_7 rfl (fun hc1 => ?_) (fun hc1 => ?_)
  · rw [if_pos hc1] at h
    refine zv_con hB zd160_32 rfl ?_
    have hw := Option.some.inj h
    subst hw
    exact hret _ _ _ _ _ zd160_33 (by trivial) ⟨rfl, rfl, rfl⟩
  · rw [if_neg hc1] at h
    refine zv_ald hB zd160_10 rfl rfl rfl ?_
    refine zv_getr hB zd160_11 rfl ?_
    refine zv_con hB zd160_14 rfl ?_
    refine zv_ald hB zd160_15 rfl rfl rfl ?_
    refine zv_getr hB zd160_16 rfl ?_
    refine zv_getf hB zd160_19 rfl rfl (fun _ _ => ?_)
    obtain ⟨r2, hr2, h⟩ := zi_bind h
    refine zv_cs hB (zv_emq (va2 := [.inl f0]) (F := [.inl f0, .inl f1]) (F' := [.inl f0, .inl f1]) (G := [g0, g1, g2, g3, g4]) (G' := [g0, g1, g2, g3, g4]) (ρ := []) (φ := []) (ψ := []) [none, none] [none, none, none, none, none] zyw_Integer_bitCount zyw_X_found zye_X_found (by decide +kernel) (zt_Integer_bitCount hr2) trivial trivial rfl rfl rfl rfl rfl rfl rfl) zd160_22 zxt102 rfl (by decide) (by decide) rfl ?_
    refine zv_mulw hB zd160_25 ?_
    obtain ⟨r3, hr3, h⟩ := zi_bind h
    refine zv_cv hB (zv_emq (va2 := [.inr 2, .inl (zi_w (2 * r2))]) (F := [.inl f0, .inl f1]) (F' := [.inl f0, .inl r3.2]) (G := [g0, g1, g2, g3, g4]) (G' := [g0, g1, g2, g3, g4]) (ρ := [2]) (φ := [1]) (ψ := []) [none, some 0] [none, none, none, none, none] zyw_Tape_take zyw_X_found zye_X_found (by decide +kernel) (zt_Tape_take hr3) ⟨⟨_, rfl, fun _ => rfl⟩, trivial⟩ trivial rfl rfl rfl rfl rfl rfl rfl) zd160_26 zxt35 rfl (by decide) (by decide) rfl ?_
    refine zv_zne hB zd160_29 rfl (fun hc4 => ?_) (fun hc4 => ?_)
    · rw [if_neg hc4] at h
      refine zv_con hB zd160_34 rfl ?_
      refine zv_ist hB zd160_35 rfl rfl rfl ?_
      refine zv_con hB zd160_36 rfl ?_
      refine zv_ist hB zd160_37 rfl rfl rfl ?_
      refine zv_con hB zd160_38 rfl ?_
      refine zv_ist hB zd160_39 rfl rfl rfl ?_
      obtain ⟨q17, hq17, h⟩ := zi_bind h
      refine l0 _ _ _ _ _ q17 hq17 ?_
      show good 124 [.inr 1000, .inl q17, .inr 1000, .inr 1000, .inr 1000] [] [.inl f0, .inl r3.2] [g0, g1, g2, g3, g4]
      refine zv_ild hB zd160_124 rfl rfl ?_
      have hw := Option.some.inj h
      subst hw
      exact hret _ _ _ _ _ zd160_125 (by trivial) ⟨rfl, rfl, rfl⟩
    · rw [if_pos hc4] at h
      refine zv_con hB zd160_32 rfl ?_
      have hw := Option.some.inj h
      subst hw
      exact hret _ _ _ _ _ zd160_33 (by trivial) ⟨rfl, rfl, rfl⟩
/-! Arrays_fill_288 ([II)V -/
-- names: 0 (0, 288)('arg', 0)
-- fields: ; arrays: g0 = 0; out: [('g', 0)]
abbrev zy_Arrays_fill_288 : zNL := (1, [], [], [], [(0, 0, 288, 0)])
theorem zyw_Arrays_fill_288 : zv_wf zy_Arrays_fill_288 = true := by decide +kernel
theorem zye_Arrays_fill_288 : zv_ek2 zy_Arrays_fill_288 = true := by decide +kernel
def zf_Arrays_fill_288_l0_b (x1 : Int) (x3 : Int) (rec : Int → (Int → Int) → Option ((Int → Int))) (x2 : Int) (g0 : (Int → Int)) : Option ((Int → Int)) := if x2 < x3 then (cond (zi_ix x2 288) (rec (zi_w (x2 + 1)) (zv_up g0 x2 x1)) none) else (some g0)
def zf_Arrays_fill_288_l0 (x1 : Int) (x3 : Int) : Nat → Int → (Int → Int) → Option ((Int → Int))
  | 0, _, _ => none
  | n + 1, x2, g0 => zf_Arrays_fill_288_l0_b x1 x3 (zf_Arrays_fill_288_l0 x1 x3 n) x2 g0
def zf_Arrays_fill_288 (x1 : Int) (g0 : (Int → Int)) : Option ((Int → Int)) := (zf_Arrays_fill_288_l0 x1 288 zi_fu 0 g0).bind fun q3 => (some q3)
theorem zt_Arrays_fill_288 {x1 : Int} {g0 : (Int → Int)} {o : (Int → Int)} (h : zf_Arrays_fill_288 x1 g0 = some o) : zv_Fn z_TB z_cl z_KX zy_Arrays_fill_288 zxm78 (0, 0) [.inr 0, .inl x1] [] [g0] none [] [o] := zv_meth (K := (z_KF20, z_KC20, z_KL20, z_KT20, [], [], [], none)) (FT := z_FT) (MT := z_MT) (n := 2) zxp78 (z_ks20 _ (fun _ h => List.mem_cons_of_mem _ h) _ _ _ _ (fun j r h _ => by cases h)) (fun _ _ => zs_KX_p) zyw_Arrays_fill_288 (fun va F G h => by obtain ⟨rfl, _⟩ := h; rfl) (fun va F G h => by obtain ⟨rfl, _⟩ := h; rfl) rfl fun good va F G hB hret hvret hP => by
  obtain ⟨rfl, rfl, rfl⟩ := hP
  have l0 : ∀ (n : Nat) (x1 : Int) (x2 : Int) (x3 : Int) (g0 : (Int → Int)) (q : (Int → Int)), zf_Arrays_fill_288_l0 x1 x3 n x2 g0 = some q → (good 20 [.inr 1000, .inr 1000, .inr 1000, .inr 1000] [] [] [q]) → good 5 [.inr 0, .inl x1, .inl x2, .inl x3] [] [] [g0] := by
    intro n
    induction n with
    | zero => intro x1 x2 x3 g0 q h; exact absurd (show none = some q from h) (fun h => by cases h)
    | succ n ih =>
      intro x1 x2 x3 g0 q h hK
      replace h : zf_Arrays_fill_288_l0_b x1 x3 (zf_Arrays_fill_288_l0 x1 x3 n) x2 g0 = some q := h
      unfold zf_Arrays_fill_288_l0_b at h
      refine zv_ild hB zd78_5 rfl rfl ?_
      refine zv_ild hB zd78_6 rfl rfl ?_
      refine zv_cge hB zd78_7 rfl (fun hc1 => ?_) (fun hc1 => ?_)
      · rw [if_neg (Int.not_lt.mpr hc1)] at h
        have hq := Option.some.inj h
        subst hq
        refine zv_wk hB (L' := [.inr 1000, .inr 1000, .inr 1000, .inr 1000]) (F' := []) ⟨fun (h : zv_is (.inr 1000)) => (Nat.lt_irrefl 1000 h).elim, fun (h : zv_is (.inr 1000)) => (Nat.lt_irrefl 1000 h).elim, fun (h : zv_is (.inr 1000)) => (Nat.lt_irrefl 1000 h).elim, fun (h : zv_is (.inr 1000)) => (Nat.lt_irrefl 1000 h).elim, trivial⟩ trivial ?_
        exact hK
      · rw [if_pos hc1] at h
        refine zv_ald hB zd78_10 rfl rfl rfl ?_
        refine zv_ild hB zd78_11 rfl rfl ?_
        refine zv_ild hB zd78_12 rfl rfl ?_
        obtain ⟨c2, h⟩ := zi_if h
        refine zv_iast hB zd78_13 rfl rfl (zi_ix_ok c2).1 (zi_ix_ok c2).2 ?_
        refine zv_iincw hB zd78_14 rfl rfl ?_
        refine zv_goto hB zd78_17 rfl ?_
        exact ih _ _ _ _ q h hK
  unfold zf_Arrays_fill_288 at h
  refine zv_con hB zd78_0 rfl ?_
  refine zv_ist hB zd78_1 rfl rfl rfl ?_
  refine zv_ald hB zd78_2 rfl rfl rfl ?_
  refine zv_alen (v := 288) hB zd78_3 rfl rfl rfl rfl ?_
  refine zv_ist hB zd78_4 rfl rfl rfl ?_
  obtain ⟨q3, hq3, h⟩ := zi_bind h
  refine l0 _ _ _ _ _ q3 hq3 ?_
  show good 20 [.inr 1000, .inr 1000, .inr 1000, .inr 1000] [] [] [q3]
  have hw := Option.some.inj h
  subst hw
  exact hvret _ _ _ _ zd78_20 trivial ⟨rfl, rfl, rfl⟩
/-! Pilot_spread_288 (LStarTales$Sea;I[I)V -/
-- names: 0 Pilot('arg', 0), 1 Sea('arg', 1), 2 (0, 288)('arg', 3), 3 (0, 288)(0, 9, 14), 4 (0, 12)(1, 2, 0)
-- fields: ; arrays: g0 = 2, g1 = 3, g2 = 4; out: [('g', 0), ('g', 1)]
abbrev zy_Pilot_spread_288 : zNL := (5, [(0, 9), (1, 2)], [], [(0, 9, 14, 3), (1, 2, 0, 4)], [(2, 0, 288, 0), (3, 0, 288, 1), (4, 0, 12, 2)])
theorem zyw_Pilot_spread_288 : zv_wf zy_Pilot_spread_288 = true := by decide +kernel
theorem zye_Pilot_spread_288 : zv_ek2 zy_Pilot_spread_288 = true := by decide +kernel
def zf_Pilot_spread_288_l1_b (x6 : Int) (g2 : (Int → Int)) (rec : Int → Int → (Int → Int) → (Int → Int) → Option (Int × (Int → Int) × (Int → Int))) (x4 : Int) (x7 : Int) (g0 : (Int → Int)) (g1 : (Int → Int)) : Option (Int × (Int → Int) × (Int → Int)) := if x7 < 5 then ((zf_Sea_goFrom x6 x7 g2).bind fun r7 => (if r7 = (-1) then (rec x4 (zi_w (x7 + 1)) g0 g1) else (cond (zi_ix r7 288) (if (g0 r7) = (-1) then (if x4 < 288 then (cond (zi_ix x6 288) (cond (zi_ix x4 288) (rec (zi_w (x4 + 1)) (zi_w (x7 + 1)) (zv_up g0 r7 (zi_w ((g0 x6) + 1))) (zv_up g1 x4 r7)) none) none) else (rec x4 (zi_w (x7 + 1)) g0 g1)) else (rec x4 (zi_w (x7 + 1)) g0 g1)) none))) else (some (x4, g0, g1))
def zf_Pilot_spread_288_l1 (x6 : Int) (g2 : (Int → Int)) : Nat → Int → Int → (Int → Int) → (Int → Int) → Option (Int × (Int → Int) × (Int → Int))
  | 0, _, _, _, _ => none
  | n + 1, x4, x7, g0, g1 => zf_Pilot_spread_288_l1_b x6 g2 (zf_Pilot_spread_288_l1 x6 g2 n) x4 x7 g0 g1
def zf_Pilot_spread_288_l0_b (g2 : (Int → Int)) (rec : Int → Int → (Int → Int) → (Int → Int) → Option ((Int → Int) × (Int → Int))) (x4 : Int) (x5 : Int) (g0 : (Int → Int)) (g1 : (Int → Int)) : Option ((Int → Int) × (Int → Int)) := if x5 < x4 then (if x5 < 288 then (cond (zi_ix x5 288) ((zf_Pilot_spread_288_l1 (g1 x5) g2 zi_fu x4 1 g0 g1).bind fun q14 => (rec q14.1 (zi_w (x5 + 1)) q14.2.1 q14.2.2)) none) else (some (g0, g1))) else (some (g0, g1))
def zf_Pilot_spread_288_l0 (g2 : (Int → Int)) : Nat → Int → Int → (Int → Int) → (Int → Int) → Option ((Int → Int) × (Int → Int))
  | 0, _, _, _, _ => none
  | n + 1, x4, x5, g0, g1 => zf_Pilot_spread_288_l0_b g2 (zf_Pilot_spread_288_l0 g2 n) x4 x5 g0 g1
def zf_Pilot_spread_288 (x2 : Int) (g0 : (Int → Int)) (g1 : (Int → Int)) (g2 : (Int → Int)) : Option ((Int → Int) × (Int → Int)) := (zf_Arrays_fill_288 (-1) g0).bind fun r1 => (cond (zi_ix x2 288) ((zf_Pilot_spread_288_l0 g2 zi_fu 1 0 (zv_up r1 x2 0) (zv_up g1 0 x2)).bind fun q15 => (some (q15.1, q15.2))) none)
theorem zd163_0 : decode zxm163.2.1 0 = .ok (.aload_n 3, 1) := by decide +kernel
theorem zd163_1 : decode zxm163.2.1 1 = .ok (.iconst (-1), 1) := by decide +kernel
theorem zd163_2 : decode zxm163.2.1 2 = .ok (.invokestatic 110, 3) := by decide +kernel
theorem zd163_5 : decode zxm163.2.1 5 = .ok (.aload_n 3, 1) := by decide +kernel
theorem zd163_6 : decode zxm163.2.1 6 = .ok (.iload_n 2, 1) := by decide +kernel
theorem zd163_7 : decode zxm163.2.1 7 = .ok (.iconst 0, 1) := by decide +kernel
theorem zd163_8 : decode zxm163.2.1 8 = .ok (.iastore, 1) := by decide +kernel
theorem zd163_9 : decode zxm163.2.1 9 = .ok (.aload_n 0, 1) := by decide +kernel
theorem zd163_10 : decode zxm163.2.1 10 = .ok (.getfield 55, 3) := by decide +kernel
theorem zd163_13 : decode zxm163.2.1 13 = .ok (.iconst 0, 1) := by decide +kernel
theorem zd163_14 : decode zxm163.2.1 14 = .ok (.iload_n 2, 1) := by decide +kernel
theorem zd163_15 : decode zxm163.2.1 15 = .ok (.iastore, 1) := by decide +kernel
theorem zd163_16 : decode zxm163.2.1 16 = .ok (.iconst 1, 1) := by decide +kernel
theorem zd163_17 : decode zxm163.2.1 17 = .ok (.istore 4, 2) := by decide +kernel
theorem zd163_19 : decode zxm163.2.1 19 = .ok (.iconst 0, 1) := by decide +kernel
theorem zd163_20 : decode zxm163.2.1 20 = .ok (.istore 5, 2) := by decide +kernel
theorem zd163_22 : decode zxm163.2.1 22 = .ok (.iload 5, 2) := by decide +kernel
theorem zd163_24 : decode zxm163.2.1 24 = .ok (.iload 4, 2) := by decide +kernel
theorem zd163_26 : decode zxm163.2.1 26 = .ok (.if_icmp .ge 95, 3) := by decide +kernel
theorem zd163_29 : decode zxm163.2.1 29 = .ok (.iload 5, 2) := by decide +kernel
theorem zd163_31 : decode zxm163.2.1 31 = .ok (.sipush 288, 3) := by decide +kernel
theorem zd163_34 : decode zxm163.2.1 34 = .ok (.if_icmp .ge 87, 3) := by decide +kernel
theorem zd163_37 : decode zxm163.2.1 37 = .ok (.aload_n 0, 1) := by decide +kernel
theorem zd163_38 : decode zxm163.2.1 38 = .ok (.getfield 55, 3) := by decide +kernel
theorem zd163_41 : decode zxm163.2.1 41 = .ok (.iload 5, 2) := by decide +kernel
theorem zd163_43 : decode zxm163.2.1 43 = .ok (.iaload, 1) := by decide +kernel
theorem zd163_44 : decode zxm163.2.1 44 = .ok (.istore 6, 2) := by decide +kernel
theorem zd163_46 : decode zxm163.2.1 46 = .ok (.iconst 1, 1) := by decide +kernel
theorem zd163_47 : decode zxm163.2.1 47 = .ok (.istore 7, 2) := by decide +kernel
theorem zd163_49 : decode zxm163.2.1 49 = .ok (.iload 7, 2) := by decide +kernel
theorem zd163_51 : decode zxm163.2.1 51 = .ok (.iconst 5, 1) := by decide +kernel
theorem zd163_52 : decode zxm163.2.1 52 = .ok (.if_icmp .ge 63, 3) := by decide +kernel
theorem zd163_55 : decode zxm163.2.1 55 = .ok (.aload_n 1, 1) := by decide +kernel
theorem zd163_56 : decode zxm163.2.1 56 = .ok (.iload 6, 2) := by decide +kernel
theorem zd163_58 : decode zxm163.2.1 58 = .ok (.iload 7, 2) := by decide +kernel
theorem zd163_60 : decode zxm163.2.1 60 = .ok (.invokevirtual 99, 3) := by decide +kernel
theorem zd163_63 : decode zxm163.2.1 63 = .ok (.istore 8, 2) := by decide +kernel
theorem zd163_65 : decode zxm163.2.1 65 = .ok (.iload 8, 2) := by decide +kernel
theorem zd163_67 : decode zxm163.2.1 67 = .ok (.iconst (-1), 1) := by decide +kernel
theorem zd163_68 : decode zxm163.2.1 68 = .ok (.if_icmp .eq 41, 3) := by decide +kernel
theorem zd163_71 : decode zxm163.2.1 71 = .ok (.aload_n 3, 1) := by decide +kernel
theorem zd163_72 : decode zxm163.2.1 72 = .ok (.iload 8, 2) := by decide +kernel
theorem zd163_74 : decode zxm163.2.1 74 = .ok (.iaload, 1) := by decide +kernel
theorem zd163_75 : decode zxm163.2.1 75 = .ok (.iconst (-1), 1) := by decide +kernel
theorem zd163_76 : decode zxm163.2.1 76 = .ok (.if_icmp .ne 33, 3) := by decide +kernel
theorem zd163_79 : decode zxm163.2.1 79 = .ok (.iload 4, 2) := by decide +kernel
theorem zd163_81 : decode zxm163.2.1 81 = .ok (.sipush 288, 3) := by decide +kernel
theorem zd163_84 : decode zxm163.2.1 84 = .ok (.if_icmp .ge 25, 3) := by decide +kernel
theorem zd163_87 : decode zxm163.2.1 87 = .ok (.aload_n 3, 1) := by decide +kernel
theorem zd163_88 : decode zxm163.2.1 88 = .ok (.iload 8, 2) := by decide +kernel
theorem zd163_90 : decode zxm163.2.1 90 = .ok (.aload_n 3, 1) := by decide +kernel
theorem zd163_91 : decode zxm163.2.1 91 = .ok (.iload 6, 2) := by decide +kernel
theorem zd163_93 : decode zxm163.2.1 93 = .ok (.iaload, 1) := by decide +kernel
theorem zd163_94 : decode zxm163.2.1 94 = .ok (.iconst 1, 1) := by decide +kernel
theorem zd163_95 : decode zxm163.2.1 95 = .ok (.iadd, 1) := by decide +kernel
theorem zd163_96 : decode zxm163.2.1 96 = .ok (.iastore, 1) := by decide +kernel
theorem zd163_97 : decode zxm163.2.1 97 = .ok (.aload_n 0, 1) := by decide +kernel
theorem zd163_98 : decode zxm163.2.1 98 = .ok (.getfield 55, 3) := by decide +kernel
theorem zd163_101 : decode zxm163.2.1 101 = .ok (.iload 4, 2) := by decide +kernel
theorem zd163_103 : decode zxm163.2.1 103 = .ok (.iload 8, 2) := by decide +kernel
theorem zd163_105 : decode zxm163.2.1 105 = .ok (.iastore, 1) := by decide +kernel
theorem zd163_106 : decode zxm163.2.1 106 = .ok (.iinc 4 1, 3) := by decide +kernel
theorem zd163_109 : decode zxm163.2.1 109 = .ok (.iinc 7 1, 3) := by decide +kernel
theorem zd163_112 : decode zxm163.2.1 112 = .ok (.goto (-63), 3) := by decide +kernel
theorem zd163_115 : decode zxm163.2.1 115 = .ok (.iinc 5 1, 3) := by decide +kernel
theorem zd163_118 : decode zxm163.2.1 118 = .ok (.goto (-96), 3) := by decide +kernel
theorem zd163_121 : decode zxm163.2.1 121 = .ok (.return_, 1) := by decide +kernel
theorem zt_Pilot_spread_288 {x2 : Int} {g0 : (Int → Int)} {g1 : (Int → Int)} {g2 : (Int → Int)} {o : (Int → Int) × (Int → Int)} (h : zf_Pilot_spread_288 x2 g0 g1 g2 = some o) : zv_Fn z_TB z_cl z_KX zy_Pilot_spread_288 zxm163 (3, 180) [.inr 0, .inr 1, .inl x2, .inr 2] [] [g0, g1, g2] none [] [o.1, o.2, g2] := zv_meth (K := (z_KF6, z_KC6, z_KL6, z_KT6, [], [], [], none)) (FT := z_FT) (MT := z_MT) (n := 4) zxp163 (z_ks6 _ (fun _ h => List.mem_cons_of_mem _ h) _ _ _ _ (fun j r h _ => by cases h)) (fun _ _ => zs_KX_p) zyw_Pilot_spread_288 (fun va F G h => by obtain ⟨rfl, _⟩ := h; rfl) (fun va F G h => by obtain ⟨rfl, _⟩ := h; rfl) rfl fun good va F G hB hret hvret hP => by
  obtain ⟨rfl, rfl, rfl⟩ := hP
  have l1 : ∀ (n : Nat) (x4 : Int) (x5 : Int) (x6 : Int) (x7 : Int) (g0 : (Int → Int)) (g1 : (Int → Int)) (q : Int × (Int → Int) × (Int → Int)), zf_Pilot_spread_288_l1 x6 g2 n x4 x7 g0 g1 = some q → (good 115 [.inr 0, .inr 1, .inr 1000, .inr 2, .inl q.1, .inl x5, .inr 1000, .inr 1000, .inr 1000] [] [] [q.2.1, q.2.2, g2]) → good 49 [.inr 0, .inr 1, .inr 1000, .inr 2, .inl x4, .inl x5, .inl x6, .inl x7, .inr 1000] [] [] [g0, g1, g2] := by
    intro n
    induction n with
    | zero => intro x4 x5 x6 x7 g0 g1 q h; exact absurd (show none = some q from h) (fun h => by cases h)
    | succ n ih =>
      intro x4 x5 x6 x7 g0 g1 q h hK
      replace h : zf_Pilot_spread_288_l1_b x6 g2 (zf_Pilot_spread_288_l1 x6 g2 n) x4 x7 g0 g1 = some q := h
      unfold zf_Pilot_spread_288_l1_b at h
      refine zv_ild hB zd163_49 rfl rfl ?_
      refine zv_con hB zd163_51 rfl ?_
      refine zv_cge hB zd163_52 rfl (fun hc6 => ?_) (fun hc6 => ?_)
      · rw [if_neg (Int.not_lt.mpr hc6)] at h
        have hq := Option.some.inj h
        subst hq
        refine zv_wk hB (L' := [.inr 0, .inr 1, .inr 1000, .inr 2, .inl x4, .inl x5, .inr 1000, .inr 1000, .inr 1000]) (F' := []) ⟨fun _ => rfl, fun _ => rfl, fun (h : zv_is (.inr 1000)) => (Nat.lt_irrefl 1000 h).elim, fun _ => rfl, fun _ => rfl, fun _ => rfl, fun (h : zv_is (.inr 1000)) => (Nat.lt_irrefl 1000 h).elim, fun (h : zv_is (.inr 1000)) => (Nat.lt_irrefl 1000 h).elim, fun (h : zv_is (.inr 1000)) => (Nat.lt_irrefl 1000 h).elim, trivial⟩ trivial ?_
        exact hK
      · rw [if_pos hc6] at h
        refine zv_ald hB zd163_55 rfl rfl rfl ?_
        refine zv_ild hB zd163_56 rfl rfl ?_
        refine zv_ild hB zd163_58 rfl rfl ?_
        obtain ⟨r7, hr7, h⟩ := zi_bind h
        refine zv_cv hB (zv_emq (va2 := [.inr 1, .inl x6, .inl x7]) (F := []) (F' := []) (G := [g0, g1, g2]) (G' := [g0, g1, g2]) (ρ := [1, 4]) (φ := []) (ψ := [2]) [] [none, none, some 0] zyw_Sea_goFrom zyw_Pilot_spread_288 zye_Pilot_spread_288 (by decide +kernel) (zt_Sea_goFrom hr7) trivial ⟨rfl, trivial⟩ rfl rfl rfl rfl rfl rfl rfl) zd163_60 zxt154 rfl (by decide) (by decide) rfl ?_
        refine zv_ist hB zd163_63 rfl rfl rfl ?_
        refine zv_ild hB zd163_65 rfl rfl ?_
        refine zv_con hB zd163_67 rfl ?_
        refine zv_ceq hB zd163_68 rfl (fun hc8 => ?_) (fun hc8 => ?_)
        · rw [if_pos hc8] at h
          refine zv_iincw hB zd163_109 rfl rfl ?_
          refine zv_goto hB zd163_112 rfl ?_
          refine zv_wk hB (L' := [.inr 0, .inr 1, .inr 1000, .inr 2, .inl x4, .inl x5, .inl x6, .inl (zi_w (x7 + 1)), .inr 1000]) (F' := []) ⟨fun _ => rfl, fun _ => rfl, fun (h : zv_is (.inr 1000)) => (Nat.lt_irrefl 1000 h).elim, fun _ => rfl, fun _ => rfl, fun _ => rfl, fun _ => rfl, fun _ => rfl, fun (h : zv_is (.inr 1000)) => (Nat.lt_irrefl 1000 h).elim, trivial⟩ trivial ?_
          exact ih _ _ _ _ _ _ q h hK
        · rw [if_neg hc8] at h
          refine zv_ald hB zd163_71 rfl rfl rfl ?_
          refine zv_ild hB zd163_72 rfl rfl ?_
          obtain ⟨c9, h⟩ := zi_if h
          refine zv_iald hB zd163_74 rfl rfl (zi_ix_ok c9).1 (zi_ix_ok c9).2 (fun _ _ => ?_)
          refine zv_con hB zd163_75 rfl ?_
          refine zv_cne hB zd163_76 rfl (fun hc10 => ?_) (fun hc10 => ?_)
          · rw [if_neg hc10] at h
            refine zv_iincw hB zd163_109 rfl rfl ?_
            refine zv_goto hB zd163_112 rfl ?_
            refine zv_wk hB (L' := [.inr 0, .inr 1, .inr 1000, .inr 2, .inl x4, .inl x5, .inl x6, .inl (zi_w (x7 + 1)), .inr 1000]) (F' := []) ⟨fun _ => rfl, fun _ => rfl, fun (h : zv_is (.inr 1000)) => (Nat.lt_irrefl 1000 h).elim, fun _ => rfl, fun _ => rfl, fun _ => rfl, fun _ => rfl, fun _ => rfl, fun (h : zv_is (.inr 1000)) => (Nat.lt_irrefl 1000 h).elim, trivial⟩ trivial ?_
            exact ih _ _ _ _ _ _ q h hK
          · rw [if_pos hc10] at h
            refine zv_ild hB zd163_79 rfl rfl ?_
            refine zv_con hB zd163_81 rfl ?_
            refine zv_cge hB zd163_84 rfl (fun hc11 => ?_) (fun hc11 => ?_)
            · rw [if_neg (Int.not_lt.mpr hc11)] at h
              refine zv_iincw hB zd163_109 rfl rfl ?_
              refine zv_goto hB zd163_112 rfl ?_
              refine zv_wk hB (L' := [.inr 0, .inr 1, .inr 1000, .inr 2, .inl x4, .inl x5, .inl x6, .inl (zi_w (x7 + 1)), .inr 1000]) (F' := []) ⟨fun _ => rfl, fun _ => rfl, fun (h : zv_is (.inr 1000)) => (Nat.lt_irrefl 1000 h).elim, fun _ => rfl, fun _ => rfl, fun _ => rfl, fun _ => rfl, fun _ => rfl, fun (h : zv_is (.inr 1000)) => (Nat.lt_irrefl 1000 h).elim, trivial⟩ trivial ?_
              exact ih _ _ _ _ _ _ q h hK
            · rw [if_pos hc11] at h
              refine zv_ald hB zd163_87 rfl rfl rfl ?_
              refine zv_ild hB zd163_88 rfl rfl ?_
              refine zv_ald hB zd163_90 rfl rfl rfl ?_
              refine zv_ild hB zd163_91 rfl rfl ?_
              obtain ⟨c12, h⟩ := zi_if h
              refine zv_iald hB zd163_93 rfl rfl (zi_ix_ok c12).1 (zi_ix_ok c12).2 (fun _ _ => ?_)
              refine zv_con hB zd163_94 rfl ?_
              refine zv_addw hB zd163_95 ?_
              refine zv_iast hB zd163_96 rfl rfl (zi_ix_ok c9).1 (zi_ix_ok c9).2 ?_
              refine zv_ald hB zd163_97 rfl rfl rfl ?_
              refine zv_getr hB zd163_98 rfl ?_
              refine zv_ild hB zd163_101 rfl rfl ?_
              refine zv_ild hB zd163_103 rfl rfl ?_
              obtain ⟨c13, h⟩ := zi_if h
              refine zv_iast hB zd163_105 rfl rfl (zi_ix_ok c13).1 (zi_ix_ok c13).2 ?_
              refine zv_iincw hB zd163_106 rfl rfl ?_
              refine zv_iincw hB zd163_109 rfl rfl ?_
              refine zv_goto hB zd163_112 rfl ?_
              refine zv_wk hB (L' := [.inr 0, .inr 1, .inr 1000, .inr 2, .inl (zi_w (x4 + 1)), .inl x5, .inl x6, .inl (zi_w (x7 + 1)), .inr 1000]) (F' := []) ⟨fun _ => rfl, fun _ => rfl, fun (h : zv_is (.inr 1000)) => (Nat.lt_irrefl 1000 h).elim, fun _ => rfl, fun _ => rfl, fun _ => rfl, fun _ => rfl, fun _ => rfl, fun (h : zv_is (.inr 1000)) => (Nat.lt_irrefl 1000 h).elim, trivial⟩ trivial ?_
              exact ih _ _ _ _ _ _ q h hK
  have l0 : ∀ (n : Nat) (x4 : Int) (x5 : Int) (g0 : (Int → Int)) (g1 : (Int → Int)) (q : (Int → Int) × (Int → Int)), zf_Pilot_spread_288_l0 g2 n x4 x5 g0 g1 = some q → (good 121 [.inr 1000, .inr 1000, .inr 1000, .inr 1000, .inr 1000, .inr 1000, .inr 1000, .inr 1000, .inr 1000] [] [] [q.1, q.2, g2]) → good 22 [.inr 0, .inr 1, .inr 1000, .inr 2, .inl x4, .inl x5, .inr 1000, .inr 1000, .inr 1000] [] [] [g0, g1, g2] := by
    intro n
    induction n with
    | zero => intro x4 x5 g0 g1 q h; exact absurd (show none = some q from h) (fun h => by cases h)
    | succ n ih =>
      intro x4 x5 g0 g1 q h hK
      replace h : zf_Pilot_spread_288_l0_b g2 (zf_Pilot_spread_288_l0 g2 n) x4 x5 g0 g1 = some q := h
      unfold zf_Pilot_spread_288_l0_b at h
      refine zv_ild hB zd163_22 rfl rfl ?_
      refine zv_ild hB zd163_24 rfl rfl ?_
      refine zv_cge hB zd163_26 rfl (fun hc3 => ?_) (fun hc3 => ?_)
      · rw [if_neg (Int.not_lt.mpr hc3)] at h
        have hq := Option.some.inj h
        subst hq
        refine zv_wk hB (L' := [.inr 1000, .inr 1000, .inr 1000, .inr 1000, .inr 1000, .inr 1000, .inr 1000, .inr 1000, .inr 1000]) (F' := []) ⟨fun (h : zv_is (.inr 1000)) => (Nat.lt_irrefl 1000 h).elim, fun (h : zv_is (.inr 1000)) => (Nat.lt_irrefl 1000 h).elim, fun (h : zv_is (.inr 1000)) => (Nat.lt_irrefl 1000 h).elim, fun (h : zv_is (.inr 1000)) => (Nat.lt_irrefl 1000 h).elim, fun (h : zv_is (.inr 1000)) => (Nat.lt_irrefl 1000 h).elim, fun (h : zv_is (.inr 1000)) => (Nat.lt_irrefl 1000 h).elim, fun (h : zv_is (.inr 1000)) => (Nat.lt_irrefl 1000 h).elim, fun (h : zv_is (.inr 1000)) => (Nat.lt_irrefl 1000 h).elim, fun (h : zv_is (.inr 1000)) => (Nat.lt_irrefl 1000 h).elim, trivial⟩ trivial ?_
        exact hK
      · rw [if_pos hc3] at h
        refine zv_ild hB zd163_29 rfl rfl ?_
        refine zv_con hB zd163_31 rfl ?_
        refine zv_cge hB zd163_34 rfl (fun hc4 => ?_) (fun hc4 => ?_)
        · rw [if_neg (Int.not_lt.mpr hc4)] at h
          have hq := Option.some.inj h
          subst hq
          refine zv_wk hB (L' := [.inr 1000, .inr 1000, .inr 1000, .inr 1000, .inr 1000, .inr 1000, .inr 1000, .inr 1000, .inr 1000]) (F' := []) ⟨fun (h : zv_is (.inr 1000)) => (Nat.lt_irrefl 1000 h).elim, fun (h : zv_is (.inr 1000)) => (Nat.lt_irrefl 1000 h).elim, fun (h : zv_is (.inr 1000)) => (Nat.lt_irrefl 1000 h).elim, fun (h : zv_is (.inr 1000)) => (Nat.lt_irrefl 1000 h).elim, fun (h : zv_is (.inr 1000)) => (Nat.lt_irrefl 1000 h).elim, fun (h : zv_is (.inr 1000)) => (Nat.lt_irrefl 1000 h).elim, fun (h : zv_is (.inr 1000)) => (Nat.lt_irrefl 1000 h).elim, fun (h : zv_is (.inr 1000)) => (Nat.lt_irrefl 1000 h).elim, fun (h : zv_is (.inr 1000)) => (Nat.lt_irrefl 1000 h).elim, trivial⟩ trivial ?_
          exact hK
        · rw [if_pos hc4] at h
          refine zv_ald hB zd163_37 rfl rfl rfl ?_
          refine zv_getr hB zd163_38 rfl ?_
          refine zv_ild hB zd163_41 rfl rfl ?_
          obtain ⟨c5, h⟩ := zi_if h
          refine zv_iald hB zd163_43 rfl rfl (zi_ix_ok c5).1 (zi_ix_ok c5).2 (fun _ _ => ?_)
          refine zv_ist hB zd163_44 rfl rfl rfl ?_
          refine zv_con hB zd163_46 rfl ?_
          refine zv_ist hB zd163_47 rfl rfl rfl ?_
          obtain ⟨q14, hq14, h⟩ := zi_bind h
          refine l1 _ _ _ _ _ _ _ q14 hq14 ?_
          show good 115 [.inr 0, .inr 1, .inr 1000, .inr 2, .inl q14.1, .inl x5, .inr 1000, .inr 1000, .inr 1000] [] [] [q14.2.1, q14.2.2, g2]
          refine zv_iincw hB zd163_115 rfl rfl ?_
          refine zv_goto hB zd163_118 rfl ?_
          exact ih _ _ _ _ q h hK
  unfold zf_Pilot_spread_288 at h
  refine zv_ald hB zd163_0 rfl rfl rfl ?_
  refine zv_con hB zd163_1 rfl ?_
  obtain ⟨r1, hr1, h⟩ := zi_bind h
  refine zv_cs hB (zv_emq (va2 := [.inr 2, .inl (-1)]) (F := []) (F' := []) (G := [g0, g1, g2]) (G' := [r1, g1, g2]) (ρ := [2]) (φ := []) (ψ := [0]) [] [some 0, none, none] zyw_Arrays_fill_288 zyw_Pilot_spread_288 zye_Pilot_spread_288 (by decide +kernel) (zt_Arrays_fill_288 hr1) trivial ⟨rfl, trivial⟩ rfl rfl rfl rfl rfl rfl rfl) zd163_2 zxt78 rfl (by decide) (by decide) rfl ?_
  refine zv_ald hB zd163_5 rfl rfl rfl ?_
  refine zv_ild hB zd163_6 rfl rfl ?_
  refine zv_con hB zd163_7 rfl ?_
  obtain ⟨c2, h⟩ := zi_if h
  refine zv_iast hB zd163_8 rfl rfl (zi_ix_ok c2).1 (zi_ix_ok c2).2 ?_
  refine zv_ald hB zd163_9 rfl rfl rfl ?_
  refine zv_getr hB zd163_10 rfl ?_
  refine zv_con hB zd163_13 rfl ?_
  refine zv_ild hB zd163_14 rfl rfl ?_
  refine zv_iast hB zd163_15 rfl rfl (by decide) (by decide) ?_
  refine zv_con hB zd163_16 rfl ?_
  refine zv_ist hB zd163_17 rfl rfl rfl ?_
  refine zv_con hB zd163_19 rfl ?_
  refine zv_ist hB zd163_20 rfl rfl rfl ?_
  obtain ⟨q15, hq15, h⟩ := zi_bind h
  refine zv_wk hB (L' := [.inr 0, .inr 1, .inr 1000, .inr 2, .inl 1, .inl 0, .inr 1000, .inr 1000, .inr 1000]) (F' := []) ⟨fun _ => rfl, fun _ => rfl, fun (h : zv_is (.inr 1000)) => (Nat.lt_irrefl 1000 h).elim, fun _ => rfl, fun _ => rfl, fun _ => rfl, fun (h : zv_is (.inr 1000)) => (Nat.lt_irrefl 1000 h).elim, fun (h : zv_is (.inr 1000)) => (Nat.lt_irrefl 1000 h).elim, fun (h : zv_is (.inr 1000)) => (Nat.lt_irrefl 1000 h).elim, trivial⟩ trivial ?_
  refine l0 _ _ _ _ _ q15 hq15 ?_
  show good 121 [.inr 1000, .inr 1000, .inr 1000, .inr 1000, .inr 1000, .inr 1000, .inr 1000, .inr 1000, .inr 1000] [] [] [q15.1, q15.2, g2]
  have hw := Option.some.inj h
  subst hw
  exact hvret _ _ _ _ zd163_121 trivial ⟨rfl, rfl, rfl⟩
/-! Pilot_hoursTo (I)I -/
-- names: 0 Pilot('arg', 0), 1 (0, 288)(0, 9, 12), 2 (0, 288)(0, 9, 13)
-- fields: ; arrays: g0 = 1, g1 = 2; out: [('ret', None)]
abbrev zy_Pilot_hoursTo : zNL := (3, [(0, 9)], [], [(0, 9, 12, 1), (0, 9, 13, 2)], [(1, 0, 288, 0), (2, 0, 288, 1)])
theorem zyw_Pilot_hoursTo : zv_wf zy_Pilot_hoursTo = true := by decide +kernel
theorem zye_Pilot_hoursTo : zv_ek2 zy_Pilot_hoursTo = true := by decide +kernel
def zf_Pilot_hoursTo (x1 : Int) (g0 : (Int → Int)) (g1 : (Int → Int)) : Option (Int) := cond (zi_ix x1 288) ((zf_Math_max (g0 x1) (g1 x1)).bind fun r2 => (some r2)) none
theorem zd164_0 : decode zxm164.2.1 0 = .ok (.aload_n 0, 1) := by decide +kernel
theorem zd164_1 : decode zxm164.2.1 1 = .ok (.getfield 49, 3) := by decide +kernel
theorem zd164_4 : decode zxm164.2.1 4 = .ok (.iload_n 1, 1) := by decide +kernel
theorem zd164_5 : decode zxm164.2.1 5 = .ok (.iaload, 1) := by decide +kernel
theorem zd164_6 : decode zxm164.2.1 6 = .ok (.aload_n 0, 1) := by decide +kernel
theorem zd164_7 : decode zxm164.2.1 7 = .ok (.getfield 52, 3) := by decide +kernel
theorem zd164_10 : decode zxm164.2.1 10 = .ok (.iload_n 1, 1) := by decide +kernel
theorem zd164_11 : decode zxm164.2.1 11 = .ok (.iaload, 1) := by decide +kernel
theorem zd164_12 : decode zxm164.2.1 12 = .ok (.invokestatic 165, 3) := by decide +kernel
theorem zd164_15 : decode zxm164.2.1 15 = .ok (.ireturn, 1) := by decide +kernel
theorem zt_Pilot_hoursTo {x1 : Int} {g0 : (Int → Int)} {g1 : (Int → Int)} {o : Int} (h : zf_Pilot_hoursTo x1 g0 g1 = some o) : zv_Fn z_TB z_cl z_KX zy_Pilot_hoursTo zxm164 (1, 60) [.inr 0, .inl x1] [] [g0, g1] (some o) [] [g0, g1] := zv_meth (K := (z_KF6, z_KC6, z_KL6, z_KT6, [], [], [], none)) (FT := z_FT) (MT := z_MT) (n := 2) zxp164 (z_ks6 _ (fun _ h => List.mem_cons_of_mem _ h) _ _ _ _ (fun j r h _ => by cases h)) (fun _ _ => zs_KX_p) zyw_Pilot_hoursTo (fun va F G h => by obtain ⟨rfl, _⟩ := h; rfl) (fun va F G h => by obtain ⟨rfl, _⟩ := h; rfl) rfl fun good va F G hB hret hvret hP => by
  obtain ⟨rfl, rfl, rfl⟩ := hP
  unfold zf_Pilot_hoursTo at h
  refine zv_ald hB zd164_0 rfl rfl rfl ?_
  refine zv_getr hB zd164_1 rfl ?_
  refine zv_ild hB zd164_4 rfl rfl ?_
  obtain ⟨c1, h⟩ := zi_if h
  refine zv_iald hB zd164_5 rfl rfl (zi_ix_ok c1).1 (zi_ix_ok c1).2 (fun _ _ => ?_)
  refine zv_ald hB zd164_6 rfl rfl rfl ?_
  refine zv_getr hB zd164_7 rfl ?_
  refine zv_ild hB zd164_10 rfl rfl ?_
  refine zv_iald hB zd164_11 rfl rfl (zi_ix_ok c1).1 (zi_ix_ok c1).2 (fun _ _ => ?_)
  obtain ⟨r2, hr2, h⟩ := zi_bind h
  refine zv_cs hB (zv_emq (va2 := [.inl (g0 x1), .inl (g1 x1)]) (F := []) (F' := []) (G := [g0, g1]) (G' := [g0, g1]) (ρ := []) (φ := []) (ψ := []) [] [none, none] zyw_Math_max zyw_Pilot_hoursTo zye_Pilot_hoursTo (by decide +kernel) (zt_Math_max hr2) trivial trivial rfl rfl rfl rfl rfl rfl rfl) zd164_12 zxt55 rfl (by decide) (by decide) rfl ?_
  have hw := Option.some.inj h
  subst hw
  exact hret _ _ _ _ _ zd164_15 (by trivial) ⟨rfl, rfl, rfl⟩
/-! Pilot_meetingPlace (LStarTales$Sea;II)I -/
-- names: 0 Pilot('arg', 0), 1 Sea('arg', 1), 2 (0, 288)(0, 9, 12), 3 (0, 288)(0, 9, 14), 4 (0, 12)(1, 2, 0), 5 (0, 288)(0, 9, 13)
-- fields: ; arrays: g0 = 2, g1 = 3, g2 = 4, g3 = 5; out: [('ret', None), ('g', 0), ('g', 1), ('g', 3)]
abbrev zy_Pilot_meetingPlace : zNL := (6, [(0, 9), (1, 2)], [], [(0, 9, 12, 2), (0, 9, 14, 3), (1, 2, 0, 4), (0, 9, 13, 5)], [(2, 0, 288, 0), (3, 0, 288, 1), (4, 0, 12, 2), (5, 0, 288, 3)])
theorem zyw_Pilot_meetingPlace : zv_wf zy_Pilot_meetingPlace = true := by decide +kernel
theorem zye_Pilot_meetingPlace : zv_ek2 zy_Pilot_meetingPlace = true := by decide +kernel
def zf_Pilot_meetingPlace_l0_b (g0 : (Int → Int)) (g3 : (Int → Int)) (rec : Int → Int → Option (Int)) (x4 : Int) (x5 : Int) : Option (Int) := if x5 < 288 then (cond (zi_ix x5 288) (if (g0 x5) = (-1) then (rec x4 (zi_w (x5 + 1))) else (if (g3 x5) = (-1) then (rec x4 (zi_w (x5 + 1))) else (if x4 = (-1) then (rec x5 (zi_w (x5 + 1))) else ((zf_Pilot_hoursTo x5 g0 g3).bind fun r11 => ((zf_Pilot_hoursTo x4 g0 g3).bind fun r12 => (if r11 < r12 then (rec x5 (zi_w (x5 + 1))) else (rec x4 (zi_w (x5 + 1))))))))) none) else (some x4)
def zf_Pilot_meetingPlace_l0 (g0 : (Int → Int)) (g3 : (Int → Int)) : Nat → Int → Int → Option (Int)
  | 0, _, _ => none
  | n + 1, x4, x5 => zf_Pilot_meetingPlace_l0_b g0 g3 (zf_Pilot_meetingPlace_l0 g0 g3 n) x4 x5
def zf_Pilot_meetingPlace (x2 : Int) (x3 : Int) (g0 : (Int → Int)) (g1 : (Int → Int)) (g2 : (Int → Int)) (g3 : (Int → Int)) : Option (Int × (Int → Int) × (Int → Int) × (Int → Int)) := (zf_Pilot_spread_288 x2 g0 g1 g2).bind fun r1 => ((zf_Pilot_spread_288 x3 g3 r1.2 g2).bind fun r2 => ((zf_Pilot_meetingPlace_l0 r1.1 r2.1 zi_fu (-1) 0).bind fun q14 => (some (q14, r1.1, r2.2, r2.1))))
theorem zd162_0 : decode zxm162.2.1 0 = .ok (.aload_n 0, 1) := by decide +kernel
theorem zd162_1 : decode zxm162.2.1 1 = .ok (.aload_n 1, 1) := by decide +kernel
theorem zd162_2 : decode zxm162.2.1 2 = .ok (.iload_n 2, 1) := by decide +kernel
theorem zd162_3 : decode zxm162.2.1 3 = .ok (.aload_n 0, 1) := by decide +kernel
theorem zd162_4 : decode zxm162.2.1 4 = .ok (.getfield 49, 3) := by decide +kernel
theorem zd162_7 : decode zxm162.2.1 7 = .ok (.invokevirtual 158, 3) := by decide +kernel
theorem zd162_10 : decode zxm162.2.1 10 = .ok (.aload_n 0, 1) := by decide +kernel
theorem zd162_11 : decode zxm162.2.1 11 = .ok (.aload_n 1, 1) := by decide +kernel
theorem zd162_12 : decode zxm162.2.1 12 = .ok (.iload_n 3, 1) := by decide +kernel
theorem zd162_13 : decode zxm162.2.1 13 = .ok (.aload_n 0, 1) := by decide +kernel
theorem zd162_14 : decode zxm162.2.1 14 = .ok (.getfield 52, 3) := by decide +kernel
theorem zd162_17 : decode zxm162.2.1 17 = .ok (.invokevirtual 158, 3) := by decide +kernel
theorem zd162_20 : decode zxm162.2.1 20 = .ok (.iconst (-1), 1) := by decide +kernel
theorem zd162_21 : decode zxm162.2.1 21 = .ok (.istore 4, 2) := by decide +kernel
theorem zd162_23 : decode zxm162.2.1 23 = .ok (.iconst 0, 1) := by decide +kernel
theorem zd162_24 : decode zxm162.2.1 24 = .ok (.istore 5, 2) := by decide +kernel
theorem zd162_26 : decode zxm162.2.1 26 = .ok (.iload 5, 2) := by decide +kernel
theorem zd162_28 : decode zxm162.2.1 28 = .ok (.sipush 288, 3) := by decide +kernel
theorem zd162_31 : decode zxm162.2.1 31 = .ok (.if_icmp .ge 68, 3) := by decide +kernel
theorem zd162_34 : decode zxm162.2.1 34 = .ok (.aload_n 0, 1) := by decide +kernel
theorem zd162_35 : decode zxm162.2.1 35 = .ok (.getfield 49, 3) := by decide +kernel
theorem zd162_38 : decode zxm162.2.1 38 = .ok (.iload 5, 2) := by decide +kernel
theorem zd162_40 : decode zxm162.2.1 40 = .ok (.iaload, 1) := by decide +kernel
theorem zd162_41 : decode zxm162.2.1 41 = .ok (.iconst (-1), 1) := by decide +kernel
theorem zd162_42 : decode zxm162.2.1 42 = .ok (.if_icmp .eq 18, 3) := by decide +kernel
theorem zd162_45 : decode zxm162.2.1 45 = .ok (.aload_n 0, 1) := by decide +kernel
theorem zd162_46 : decode zxm162.2.1 46 = .ok (.getfield 52, 3) := by decide +kernel
theorem zd162_49 : decode zxm162.2.1 49 = .ok (.iload 5, 2) := by decide +kernel
theorem zd162_51 : decode zxm162.2.1 51 = .ok (.iaload, 1) := by decide +kernel
theorem zd162_52 : decode zxm162.2.1 52 = .ok (.iconst (-1), 1) := by decide +kernel
theorem zd162_53 : decode zxm162.2.1 53 = .ok (.if_icmp .eq 7, 3) := by decide +kernel
theorem zd162_56 : decode zxm162.2.1 56 = .ok (.iconst 1, 1) := by decide +kernel
theorem zd162_57 : decode zxm162.2.1 57 = .ok (.goto 4, 3) := by decide +kernel
theorem zd162_60 : decode zxm162.2.1 60 = .ok (.iconst 0, 1) := by decide +kernel
theorem zd162_61 : decode zxm162.2.1 61 = .ok (.istore 6, 2) := by decide +kernel
theorem zd162_63 : decode zxm162.2.1 63 = .ok (.iload 6, 2) := by decide +kernel
theorem zd162_65 : decode zxm162.2.1 65 = .ok (.ifCond .eq 28, 3) := by decide +kernel
theorem zd162_68 : decode zxm162.2.1 68 = .ok (.iload 4, 2) := by decide +kernel
theorem zd162_70 : decode zxm162.2.1 70 = .ok (.iconst (-1), 1) := by decide +kernel
theorem zd162_71 : decode zxm162.2.1 71 = .ok (.if_icmp .eq 18, 3) := by decide +kernel
theorem zd162_74 : decode zxm162.2.1 74 = .ok (.aload_n 0, 1) := by decide +kernel
theorem zd162_75 : decode zxm162.2.1 75 = .ok (.iload 5, 2) := by decide +kernel
theorem zd162_77 : decode zxm162.2.1 77 = .ok (.invokevirtual 162, 3) := by decide +kernel
theorem zd162_80 : decode zxm162.2.1 80 = .ok (.aload_n 0, 1) := by decide +kernel
theorem zd162_81 : decode zxm162.2.1 81 = .ok (.iload 4, 2) := by decide +kernel
theorem zd162_83 : decode zxm162.2.1 83 = .ok (.invokevirtual 162, 3) := by decide +kernel
theorem zd162_86 : decode zxm162.2.1 86 = .ok (.if_icmp .ge 7, 3) := by decide +kernel
theorem zd162_89 : decode zxm162.2.1 89 = .ok (.iload 5, 2) := by decide +kernel
theorem zd162_91 : decode zxm162.2.1 91 = .ok (.istore 4, 2) := by decide +kernel
theorem zd162_93 : decode zxm162.2.1 93 = .ok (.iinc 5 1, 3) := by decide +kernel
theorem zd162_96 : decode zxm162.2.1 96 = .ok (.goto (-70), 3) := by decide +kernel
theorem zd162_99 : decode zxm162.2.1 99 = .ok (.iload 4, 2) := by decide +kernel
theorem zd162_101 : decode zxm162.2.1 101 = .ok (.ireturn, 1) := by decide +kernel
theorem zt_Pilot_meetingPlace {x2 : Int} {x3 : Int} {g0 : (Int → Int)} {g1 : (Int → Int)} {g2 : (Int → Int)} {g3 : (Int → Int)} {o : Int × (Int → Int) × (Int → Int) × (Int → Int)} (h : zf_Pilot_meetingPlace x2 x3 g0 g1 g2 g3 = some o) : zv_Fn z_TB z_cl z_KX zy_Pilot_meetingPlace zxm162 (4, 240) [.inr 0, .inr 1, .inl x2, .inl x3] [] [g0, g1, g2, g3] (some o.1) [] [o.2.1, o.2.2.1, g2, o.2.2.2] := zv_meth (K := (z_KF6, z_KC6, z_KL6, z_KT6, [], [], [], none)) (FT := z_FT) (MT := z_MT) (n := 4) zxp162 (z_ks6 _ (fun _ h => List.mem_cons_of_mem _ h) _ _ _ _ (fun j r h _ => by cases h)) (fun _ _ => zs_KX_p) zyw_Pilot_meetingPlace (fun va F G h => by obtain ⟨rfl, _⟩ := h; rfl) (fun va F G h => by obtain ⟨rfl, _⟩ := h; rfl) rfl fun good va F G hB hret hvret hP => by
  obtain ⟨rfl, rfl, rfl⟩ := hP
  have l0 : ∀ (n : Nat) (x4 : Int) (x5 : Int) (g0 : (Int → Int)) (g1 : (Int → Int)) (g3 : (Int → Int)) (q : Int), zf_Pilot_meetingPlace_l0 g0 g3 n x4 x5 = some q → (good 99 [.inr 1000, .inr 1000, .inr 1000, .inr 1000, .inl q, .inr 1000, .inr 1000] [] [] [g0, g1, g2, g3]) → good 26 [.inr 0, .inr 1000, .inr 1000, .inr 1000, .inl x4, .inl x5, .inr 1000] [] [] [g0, g1, g2, g3] := by
    intro n
    induction n with
    | zero => intro x4 x5 g0 g1 g3 q h; exact absurd (show none = some q from h) (fun h => by cases h)
    | succ n ih =>
      intro x4 x5 g0 g1 g3 q h hK
      replace h : zf_Pilot_meetingPlace_l0_b g0 g3 (zf_Pilot_meetingPlace_l0 g0 g3 n) x4 x5 = some q := h
      unfold zf_Pilot_meetingPlace_l0_b at h
      refine zv_ild hB zd162_26 rfl rfl ?_
      refine zv_con hB zd162_28 rfl ?_
      refine zv_cge hB zd162_31 rfl (fun hc3 => ?_) (fun hc3 => ?_)
      · rw [if_neg (Int.not_lt.mpr hc3)] at h
        have hq := Option.some.inj h
        subst hq
        refine zv_wk hB (L' := [.inr 1000, .inr 1000, .inr 1000, .inr 1000, .inl x4, .inr 1000, .inr 1000]) (F' := []) ⟨fun (h : zv_is (.inr 1000)) => (Nat.lt_irrefl 1000 h).elim, fun (h : zv_is (.inr 1000)) => (Nat.lt_irrefl 1000 h).elim, fun (h : zv_is (.inr 1000)) => (Nat.lt_irrefl 1000 h).elim, fun (h : zv_is (.inr 1000)) => (Nat.lt_irrefl 1000 h).elim, fun _ => rfl, fun (h : zv_is (.inr 1000)) => (Nat.lt_irrefl 1000 h).elim, fun (h : zv_is (.inr 1000)) => (Nat.lt_irrefl 1000 h).elim, trivial⟩ trivial ?_
        exact hK
      · rw [if_pos hc3] at h
        refine zv_ald hB zd162_34 rfl rfl rfl ?_
        refine zv_getr hB zd162_35 rfl ?_
        refine zv_ild hB zd162_38 rfl rfl ?_
        obtain ⟨c4, h⟩ := zi_if h
        refine zv_iald hB zd162_40 rfl rfl (zi_ix_ok c4).1 (zi_ix_ok c4).2 (fun _ _ => ?_)
        refine zv_con hB zd162_41 rfl ?_
        refine zv_ceq hB zd162_42 rfl (fun hc5 => ?_) (fun hc5 => ?_)
        · rw [if_pos hc5] at h
          refine zv_con hB zd162_60 rfl ?_
          refine zv_ist hB zd162_61 rfl rfl rfl ?_
          refine zv_ild hB zd162_63 rfl rfl ?_
          refine zv_zeq hB zd162_65 rfl (fun _ => ?_) (fun hc => absurd hc (by decide))
          refine zv_iincw hB zd162_93 rfl rfl ?_
          refine zv_goto hB zd162_96 rfl ?_
          refine zv_wk hB (L' := [.inr 0, .inr 1000, .inr 1000, .inr 1000, .inl x4, .inl (zi_w (x5 + 1)), .inr 1000]) (F' := []) ⟨fun _ => rfl, fun (h : zv_is (.inr 1000)) => (Nat.lt_irrefl 1000 h).elim, fun (h : zv_is (.inr 1000)) => (Nat.lt_irrefl 1000 h).elim, fun (h : zv_is (.inr 1000)) => (Nat.lt_irrefl 1000 h).elim, fun _ => rfl, fun _ => rfl, fun (h : zv_is (.inr 1000)) => (Nat.lt_irrefl 1000 h).elim, trivial⟩ trivial ?_
          exact ih _ _ _ _ _ q h hK
        · rw [if_neg hc5] at h
          refine zv_ald hB zd162_45 rfl rfl rfl ?_
          refine zv_getr hB zd162_46 rfl ?_
          refine zv_ild hB zd162_49 rfl rfl ?_
          refine zv_iald hB zd162_51 rfl rfl (zi_ix_ok c4).1 (zi_ix_ok c4).2 (fun _ _ => ?_)
          refine zv_con hB zd162_52 rfl ?_
          refine zv_ceq hB zd162_53 rfl (fun hc7 => ?_) (fun hc7 => ?_)
          · rw [if_pos hc7] at h
            refine zv_con hB zd162_60 rfl ?_
            refine zv_ist hB zd162_61 rfl rfl rfl ?_
            refine zv_ild hB zd162_63 rfl rfl ?_
            refine zv_zeq hB zd162_65 rfl (fun _ => ?_) (fun hc => absurd hc (by decide))
            refine zv_iincw hB zd162_93 rfl rfl ?_
            refine zv_goto hB zd162_96 rfl ?_
            refine zv_wk hB (L' := [.inr 0, .inr 1000, .inr 1000, .inr 1000, .inl x4, .inl (zi_w (x5 + 1)), .inr 1000]) (F' := []) ⟨fun _ => rfl, fun (h : zv_is (.inr 1000)) => (Nat.lt_irrefl 1000 h).elim, fun (h : zv_is (.inr 1000)) => (Nat.lt_irrefl 1000 h).elim, fun (h : zv_is (.inr 1000)) => (Nat.lt_irrefl 1000 h).elim, fun _ => rfl, fun _ => rfl, fun (h : zv_is (.inr 1000)) => (Nat.lt_irrefl 1000 h).elim, trivial⟩ trivial ?_
            exact ih _ _ _ _ _ q h hK
          · rw [if_neg hc7] at h
            refine zv_con hB zd162_56 rfl ?_
            refine zv_goto hB zd162_57 rfl ?_
            refine zv_ist hB zd162_61 rfl rfl rfl ?_
            refine zv_ild hB zd162_63 rfl rfl ?_
            refine zv_zeq hB zd162_65 rfl (fun hc => absurd hc (by decide)) (fun _ => ?_)
            refine zv_ild hB zd162_68 rfl rfl ?_
            refine zv_con hB zd162_70 rfl ?_
            refine zv_ceq hB zd162_71 rfl (fun hc10 => ?_) (fun hc10 => ?_)
            · rw [if_pos hc10] at h
              refine zv_ild hB zd162_89 rfl rfl ?_
              refine zv_ist hB zd162_91 rfl rfl rfl ?_
              refine zv_iincw hB zd162_93 rfl rfl ?_
              refine zv_goto hB zd162_96 rfl ?_
              refine zv_wk hB (L' := [.inr 0, .inr 1000, .inr 1000, .inr 1000, .inl x5, .inl (zi_w (x5 + 1)), .inr 1000]) (F' := []) ⟨fun _ => rfl, fun (h : zv_is (.inr 1000)) => (Nat.lt_irrefl 1000 h).elim, fun (h : zv_is (.inr 1000)) => (Nat.lt_irrefl 1000 h).elim, fun (h : zv_is (.inr 1000)) => (Nat.lt_irrefl 1000 h).elim, fun _ => rfl, fun _ => rfl, fun (h : zv_is (.inr 1000)) => (Nat.lt_irrefl 1000 h).elim, trivial⟩ trivial ?_
              exact ih _ _ _ _ _ q h hK
            · rw [if_neg hc10] at h
              refine zv_ald hB zd162_74 rfl rfl rfl ?_
              refine zv_ild hB zd162_75 rfl rfl ?_
              obtain ⟨r11, hr11, h⟩ := zi_bind h
              refine zv_cv hB (zv_emq (va2 := [.inr 0, .inl x5]) (F := []) (F' := []) (G := [g0, g1, g2, g3]) (G' := [g0, g1, g2, g3]) (ρ := [0, 2, 5]) (φ := []) (ψ := [0, 3]) [] [some 0, none, none, some 1] zyw_Pilot_hoursTo zyw_Pilot_meetingPlace zye_Pilot_meetingPlace (by decide +kernel) (zt_Pilot_hoursTo hr11) trivial ⟨rfl, rfl, trivial⟩ rfl rfl rfl rfl rfl rfl rfl) zd162_77 zxt164 rfl (by decide) (by decide) rfl ?_
              refine zv_ald hB zd162_80 rfl rfl rfl ?_
              refine zv_ild hB zd162_81 rfl rfl ?_
              obtain ⟨r12, hr12, h⟩ := zi_bind h
              refine zv_cv hB (zv_emq (va2 := [.inr 0, .inl x4]) (F := []) (F' := []) (G := [g0, g1, g2, g3]) (G' := [g0, g1, g2, g3]) (ρ := [0, 2, 5]) (φ := []) (ψ := [0, 3]) [] [some 0, none, none, some 1] zyw_Pilot_hoursTo zyw_Pilot_meetingPlace zye_Pilot_meetingPlace (by decide +kernel) (zt_Pilot_hoursTo hr12) trivial ⟨rfl, rfl, trivial⟩ rfl rfl rfl rfl rfl rfl rfl) zd162_83 zxt164 rfl (by decide) (by decide) rfl ?_
              refine zv_cge hB zd162_86 rfl (fun hc13 => ?_) (fun hc13 => ?_)
              · rw [if_neg (Int.not_lt.mpr hc13)] at h
                refine zv_iincw hB zd162_93 rfl rfl ?_
                refine zv_goto hB zd162_96 rfl ?_
                refine zv_wk hB (L' := [.inr 0, .inr 1000, .inr 1000, .inr 1000, .inl x4, .inl (zi_w (x5 + 1)), .inr 1000]) (F' := []) ⟨fun _ => rfl, fun (h : zv_is (.inr 1000)) => (Nat.lt_irrefl 1000 h).elim, fun (h : zv_is (.inr 1000)) => (Nat.lt_irrefl 1000 h).elim, fun (h : zv_is (.inr 1000)) => (Nat.lt_irrefl 1000 h).elim, fun _ => rfl, fun _ => rfl, fun (h : zv_is (.inr 1000)) => (Nat.lt_irrefl 1000 h).elim, trivial⟩ trivial ?_
                exact ih _ _ _ _ _ q h hK
              · rw [if_pos hc13] at h
                refine zv_ild hB zd162_89 rfl rfl ?_
                refine zv_ist hB zd162_91 rfl rfl rfl ?_
                refine zv_iincw hB zd162_93 rfl rfl ?_
                refine zv_goto hB zd162_96 rfl ?_
                refine zv_wk hB (L' := [.inr 0, .inr 1000, .inr 1000, .inr 1000, .inl x5, .inl (zi_w (x5 + 1)), .inr 1000]) (F' := []) ⟨fun _ => rfl, fun (h : zv_is (.inr 1000)) => (Nat.lt_irrefl 1000 h).elim, fun (h : zv_is (.inr 1000)) => (Nat.lt_irrefl 1000 h).elim, fun (h : zv_is (.inr 1000)) => (Nat.lt_irrefl 1000 h).elim, fun _ => rfl, fun _ => rfl, fun (h : zv_is (.inr 1000)) => (Nat.lt_irrefl 1000 h).elim, trivial⟩ trivial ?_
                exact ih _ _ _ _ _ q h hK
  unfold zf_Pilot_meetingPlace at h
  refine zv_ald hB zd162_0 rfl rfl rfl ?_
  refine zv_ald hB zd162_1 rfl rfl rfl ?_
  refine zv_ild hB zd162_2 rfl rfl ?_
  refine zv_ald hB zd162_3 rfl rfl rfl ?_
  refine zv_getr hB zd162_4 rfl ?_
  obtain ⟨r1, hr1, h⟩ := zi_bind h
  refine zv_cv hB (zv_emq (va2 := [.inr 0, .inr 1, .inl x2, .inr 2]) (F := []) (F' := []) (G := [g0, g1, g2, g3]) (G' := [r1.1, r1.2, g2, g3]) (ρ := [0, 1, 2, 3, 4]) (φ := []) (ψ := [0, 1, 2]) [] [some 0, some 1, some 2, none] zyw_Pilot_spread_288 zyw_Pilot_meetingPlace zye_Pilot_meetingPlace (by decide +kernel) (zt_Pilot_spread_288 hr1) trivial ⟨rfl, rfl, rfl, trivial⟩ rfl rfl rfl rfl rfl rfl rfl) zd162_7 zxt163 rfl (by decide) (by decide) rfl ?_
  refine zv_ald hB zd162_10 rfl rfl rfl ?_
  refine zv_ald hB zd162_11 rfl rfl rfl ?_
  refine zv_ild hB zd162_12 rfl rfl ?_
  refine zv_ald hB zd162_13 rfl rfl rfl ?_
  refine zv_getr hB zd162_14 rfl ?_
  obtain ⟨r2, hr2, h⟩ := zi_bind h
  refine zv_cv hB (zv_emq (va2 := [.inr 0, .inr 1, .inl x3, .inr 5]) (F := []) (F' := []) (G := [r1.1, r1.2, g2, g3]) (G' := [r1.1, r2.2, g2, r2.1]) (ρ := [0, 1, 5, 3, 4]) (φ := []) (ψ := [3, 1, 2]) [] [none, some 1, some 2, some 0] zyw_Pilot_spread_288 zyw_Pilot_meetingPlace zye_Pilot_meetingPlace (by decide +kernel) (zt_Pilot_spread_288 hr2) trivial ⟨rfl, rfl, rfl, trivial⟩ rfl rfl rfl rfl rfl rfl rfl) zd162_17 zxt163 rfl (by decide) (by decide) rfl ?_
  refine zv_con hB zd162_20 rfl ?_
  refine zv_ist hB zd162_21 rfl rfl rfl ?_
  refine zv_con hB zd162_23 rfl ?_
  refine zv_ist hB zd162_24 rfl rfl rfl ?_
  obtain ⟨q14, hq14, h⟩ := zi_bind h
  refine zv_wk hB (L' := [.inr 0, .inr 1000, .inr 1000, .inr 1000, .inl (-1), .inl 0, .inr 1000]) (F' := []) ⟨fun _ => rfl, fun (h : zv_is (.inr 1000)) => (Nat.lt_irrefl 1000 h).elim, fun (h : zv_is (.inr 1000)) => (Nat.lt_irrefl 1000 h).elim, fun (h : zv_is (.inr 1000)) => (Nat.lt_irrefl 1000 h).elim, fun _ => rfl, fun _ => rfl, fun (h : zv_is (.inr 1000)) => (Nat.lt_irrefl 1000 h).elim, trivial⟩ trivial ?_
  refine l0 _ _ _ _ _ _ q14 hq14 ?_
  show good 99 [.inr 1000, .inr 1000, .inr 1000, .inr 1000, .inl q14, .inr 1000, .inr 1000] [] [] [r1.1, r2.2, g2, r2.1]
  refine zv_ild hB zd162_99 rfl rfl ?_
  have hw := Option.some.inj h
  subst hw
  exact hret _ _ _ _ _ zd162_101 (by trivial) ⟨rfl, rfl, rfl⟩
end
section
/-! Methods as functions, and that they do what these do. -/
/-! X_meeting (III)I -/
-- names: 0 StarTales('arg', 0), 1 Sea(0, 0, 3), 2 Pilot(0, 0, 15), 3 (0, 6)(1, 2, 2), 4 (0, 288)(2, 9, 12), 5 (0, 288)(2, 9, 14), 6 (0, 12)(1, 2, 0), 7 (0, 288)(2, 9, 13)
-- fields: f0 = 1.shipsTold_; arrays: g0 = 3, g1 = 4, g2 = 5, g3 = 6, g4 = 7; out: [('ret', None), ('g', 1), ('g', 2), ('g', 4)]
abbrev zy_X_meeting : zNL := (8, [(0, 0), (1, 2), (2, 9)], [(1, 2, 1, 0)], [(0, 0, 3, 1), (0, 0, 15, 2), (1, 2, 2, 3), (2, 9, 12, 4), (2, 9, 14, 5), (1, 2, 0, 6), (2, 9, 13, 7)], [(3, 0, 6, 0), (4, 0, 288, 1), (5, 0, 288, 2), (6, 0, 12, 3), (7, 0, 288, 4)])
theorem zyw_X_meeting : zv_wf zy_X_meeting = true := by decide +kernel
theorem zye_X_meeting : zv_ek2 zy_X_meeting = true := by decide +kernel
def zf_X_meeting (x1 : Int) (x2 : Int) (x3 : Int) (f0 : Int) (g0 : (Int → Int)) (g1 : (Int → Int)) (g2 : (Int → Int)) (g3 : (Int → Int)) (g4 : (Int → Int)) : Option (Int × (Int → Int) × (Int → Int) × (Int → Int)) := (zf_Sea_hasShip x1 f0).bind fun r1 => (if r1 = 0 then (some ((-1), g1, g2, g4)) else ((zf_Sea_hasShip x2 f0).bind fun r3 => (if r3 = 0 then (some ((-1), g1, g2, g4)) else ((zf_X_isWithin x3 0 1).bind fun r5 => (if r5 = 0 then (some ((-1), g1, g2, g4)) else (cond (zi_ix x1 6) (cond (zi_ix x2 6) ((zf_Pilot_meetingPlace (g0 x1) (g0 x2) g1 g2 g3 g4).bind fun r9 => (if r9.1 = (-1) then (some ((-2), r9.2.1, r9.2.2.1, r9.2.2.2)) else (if x3 = 1 then (some (r9.1, r9.2.1, r9.2.2.1, r9.2.2.2)) else ((zf_Pilot_hoursTo r9.1 r9.2.1 r9.2.2.2).bind fun r12 => (some (r12, r9.2.1, r9.2.2.1, r9.2.2.2)))))) none) none))))))
theorem zd161_0 : decode zxm161.2.1 0 = .ok (.aload_n 0, 1) := by decide +kernel
theorem zd161_1 : decode zxm161.2.1 1 = .ok (.getfield 25, 3) := by decide +kernel
theorem zd161_4 : decode zxm161.2.1 4 = .ok (.iload_n 1, 1) := by decide +kernel
theorem zd161_5 : decode zxm161.2.1 5 = .ok (.invokevirtual 323, 3) := by decide +kernel
theorem zd161_8 : decode zxm161.2.1 8 = .ok (.ifCond .eq 23, 3) := by decide +kernel
theorem zd161_11 : decode zxm161.2.1 11 = .ok (.aload_n 0, 1) := by decide +kernel
theorem zd161_12 : decode zxm161.2.1 12 = .ok (.getfield 25, 3) := by decide +kernel
theorem zd161_15 : decode zxm161.2.1 15 = .ok (.iload_n 2, 1) := by decide +kernel
theorem zd161_16 : decode zxm161.2.1 16 = .ok (.invokevirtual 323, 3) := by decide +kernel
theorem zd161_19 : decode zxm161.2.1 19 = .ok (.ifCond .eq 12, 3) := by decide +kernel
theorem zd161_22 : decode zxm161.2.1 22 = .ok (.iload_n 3, 1) := by decide +kernel
theorem zd161_23 : decode zxm161.2.1 23 = .ok (.iconst 0, 1) := by decide +kernel
theorem zd161_24 : decode zxm161.2.1 24 = .ok (.iconst 1, 1) := by decide +kernel
theorem zd161_25 : decode zxm161.2.1 25 = .ok (.invokestatic 126, 3) := by decide +kernel
theorem zd161_28 : decode zxm161.2.1 28 = .ok (.ifCond .ne 5, 3) := by decide +kernel
theorem zd161_31 : decode zxm161.2.1 31 = .ok (.iconst (-1), 1) := by decide +kernel
theorem zd161_32 : decode zxm161.2.1 32 = .ok (.ireturn, 1) := by decide +kernel
theorem zd161_33 : decode zxm161.2.1 33 = .ok (.aload_n 0, 1) := by decide +kernel
theorem zd161_34 : decode zxm161.2.1 34 = .ok (.getfield 103, 3) := by decide +kernel
theorem zd161_37 : decode zxm161.2.1 37 = .ok (.aload_n 0, 1) := by decide +kernel
theorem zd161_38 : decode zxm161.2.1 38 = .ok (.getfield 25, 3) := by decide +kernel
theorem zd161_41 : decode zxm161.2.1 41 = .ok (.aload_n 0, 1) := by decide +kernel
theorem zd161_42 : decode zxm161.2.1 42 = .ok (.getfield 25, 3) := by decide +kernel
theorem zd161_45 : decode zxm161.2.1 45 = .ok (.getfield 187, 3) := by decide +kernel
theorem zd161_48 : decode zxm161.2.1 48 = .ok (.iload_n 1, 1) := by decide +kernel
theorem zd161_49 : decode zxm161.2.1 49 = .ok (.iaload, 1) := by decide +kernel
theorem zd161_50 : decode zxm161.2.1 50 = .ok (.aload_n 0, 1) := by decide +kernel
theorem zd161_51 : decode zxm161.2.1 51 = .ok (.getfield 25, 3) := by decide +kernel
theorem zd161_54 : decode zxm161.2.1 54 = .ok (.getfield 187, 3) := by decide +kernel
theorem zd161_57 : decode zxm161.2.1 57 = .ok (.iload_n 2, 1) := by decide +kernel
theorem zd161_58 : decode zxm161.2.1 58 = .ok (.iaload, 1) := by decide +kernel
theorem zd161_59 : decode zxm161.2.1 59 = .ok (.invokevirtual 346, 3) := by decide +kernel
theorem zd161_62 : decode zxm161.2.1 62 = .ok (.istore 4, 2) := by decide +kernel
theorem zd161_64 : decode zxm161.2.1 64 = .ok (.iload 4, 2) := by decide +kernel
theorem zd161_66 : decode zxm161.2.1 66 = .ok (.iconst (-1), 1) := by decide +kernel
theorem zd161_67 : decode zxm161.2.1 67 = .ok (.if_icmp .ne 6, 3) := by decide +kernel
theorem zd161_70 : decode zxm161.2.1 70 = .ok (.bipush (-2), 2) := by decide +kernel
theorem zd161_72 : decode zxm161.2.1 72 = .ok (.ireturn, 1) := by decide +kernel
theorem zd161_73 : decode zxm161.2.1 73 = .ok (.iload_n 3, 1) := by decide +kernel
theorem zd161_74 : decode zxm161.2.1 74 = .ok (.iconst 1, 1) := by decide +kernel
theorem zd161_75 : decode zxm161.2.1 75 = .ok (.if_icmp .ne 8, 3) := by decide +kernel
theorem zd161_78 : decode zxm161.2.1 78 = .ok (.iload 4, 2) := by decide +kernel
theorem zd161_80 : decode zxm161.2.1 80 = .ok (.goto 12, 3) := by decide +kernel
theorem zd161_83 : decode zxm161.2.1 83 = .ok (.aload_n 0, 1) := by decide +kernel
theorem zd161_84 : decode zxm161.2.1 84 = .ok (.getfield 103, 3) := by decide +kernel
theorem zd161_87 : decode zxm161.2.1 87 = .ok (.iload 4, 2) := by decide +kernel
theorem zd161_89 : decode zxm161.2.1 89 = .ok (.invokevirtual 350, 3) := by decide +kernel
theorem zd161_92 : decode zxm161.2.1 92 = .ok (.ireturn, 1) := by decide +kernel
theorem zt_X_meeting {x1 : Int} {x2 : Int} {x3 : Int} {f0 : Int} {g0 : (Int → Int)} {g1 : (Int → Int)} {g2 : (Int → Int)} {g3 : (Int → Int)} {g4 : (Int → Int)} {o : Int × (Int → Int) × (Int → Int) × (Int → Int)} (h : zf_X_meeting x1 x2 x3 f0 g0 g1 g2 g3 g4 = some o) : zv_Fn z_TB z_cl z_KX zy_X_meeting zxm161 (5, 300) [.inr 0, .inl x1, .inl x2, .inl x3] [.inl f0] [g0, g1, g2, g3, g4] (some o.1) [.inl f0] [g0, o.2.1, o.2.2.1, g3, o.2.2.2] := zv_meth (K := (z_KF0, z_KC0, z_KL0, z_KT0, [], [], [], none)) (FT := z_FT) (MT := z_MT) (n := 4) zxp161 (z_ks0 _ (fun _ h => List.mem_cons_of_mem _ h) _ _ _ _ (fun j r h _ => by cases h)) (fun _ _ => zs_KX_p) zyw_X_meeting (fun va F G h => by obtain ⟨rfl, _⟩ := h; rfl) (fun va F G h => by obtain ⟨rfl, _⟩ := h; rfl) rfl fun good va F G hB hret hvret hP => by
  obtain ⟨rfl, rfl, rfl⟩ := hP
  unfold zf_X_meeting at h
  refine zv_ald hB zd161_0 rfl rfl rfl ?_
  refine zv_getr hB zd161_1 rfl ?_
  refine zv_ild hB zd161_4 rfl rfl ?_
  obtain ⟨r1, hr1, h⟩ := zi_bind h
  refine zv_cv hB (zv_emq (va2 := [.inr 1, .inl x1]) (F := [.inl f0]) (F' := [.inl f0]) (G := [g0, g1, g2, g3, g4]) (G' := [g0, g1, g2, g3, g4]) (ρ := [1]) (φ := [0]) (ψ := []) [some 0] [none, none, none, none, none] zyw_Sea_hasShip zyw_X_meeting zye_X_meeting (by decide +kernel) (zt_Sea_hasShip hr1) ⟨⟨_, rfl, fun _ => rfl⟩, trivial⟩ trivial rfl rfl rfl rfl rfl rfl rfl) zd161_5 zxt26 rfl (by decide) (by decide) rfl ?_
  refine zv_zeq hB zd161_8 rfl (fun hc2 => ?_) (fun hc2 => ?_)
  · rw [if_pos hc2] at h
    refine zv_con hB zd161_31 rfl ?_
    have hw := Option.some.inj h
    subst hw
    exact hret _ _ _ _ _ zd161_32 (by trivial) ⟨rfl, rfl, rfl⟩
  · rw [if_neg hc2] at h
    refine zv_ald hB zd161_11 rfl rfl rfl ?_
    refine zv_getr hB zd161_12 rfl ?_
    refine zv_ild hB zd161_15 rfl rfl ?_
    obtain ⟨r3, hr3, h⟩ := zi_bind h
    refine zv_cv hB (zv_emq (va2 := [.inr 1, .inl x2]) (F := [.inl f0]) (F' := [.inl f0]) (G := [g0, g1, g2, g3, g4]) (G' := [g0, g1, g2, g3, g4]) (ρ := [1]) (φ := [0]) (ψ := []) [some 0] [none, none, none, none, none] zyw_Sea_hasShip zyw_X_meeting zye_X_meeting (by decide +kernel) (zt_Sea_hasShip hr3) ⟨⟨_, rfl, fun _ => rfl⟩, trivial⟩ trivial rfl rfl rfl rfl rfl rfl rfl) zd161_16 zxt26 rfl (by decide) (by decide) rfl ?_
    refine zv_zeq hB zd161_19 rfl (fun hc4 => ?_) (fun hc4 => ?_)
    · rw [if_pos hc4] at h
      refine zv_con hB zd161_31 rfl ?_
      have hw := Option.some.inj h
      subst hw
      exact hret _ _ _ _ _ zd161_32 (by trivial) ⟨rfl, rfl, rfl⟩
    · rw [if_neg hc4] at h
      refine zv_ild hB zd161_22 rfl rfl ?_
      refine zv_con hB zd161_23 rfl ?_
      refine zv_con hB zd161_24 rfl ?_
      obtain ⟨r5, hr5, h⟩ := zi_bind h
      refine zv_cs hB (zv_emq (va2 := [.inl x3, .inl 0, .inl 1]) (F := [.inl f0]) (F' := [.inl f0]) (G := [g0, g1, g2, g3, g4]) (G' := [g0, g1, g2, g3, g4]) (ρ := []) (φ := []) (ψ := []) [none] [none, none, none, none, none] zyw_X_isWithin zyw_X_meeting zye_X_meeting (by decide +kernel) (zt_X_isWithin hr5) trivial trivial rfl rfl rfl rfl rfl rfl rfl) zd161_25 zxt15 rfl (by decide) (by decide) rfl ?_
      refine zv_zne hB zd161_28 rfl (fun hc6 => ?_) (fun hc6 => ?_)
      · rw [if_neg hc6] at h
        refine zv_ald hB zd161_33 rfl rfl rfl ?_
        refine zv_getr hB zd161_34 rfl ?_
        refine zv_ald hB zd161_37 rfl rfl rfl ?_
        refine zv_getr hB zd161_38 rfl ?_
        refine zv_ald hB zd161_41 rfl rfl rfl ?_
        refine zv_getr hB zd161_42 rfl ?_
        refine zv_getr hB zd161_45 rfl ?_
        refine zv_ild hB zd161_48 rfl rfl ?_
        obtain ⟨c7, h⟩ := zi_if h
        refine zv_iald hB zd161_49 rfl rfl (zi_ix_ok c7).1 (zi_ix_ok c7).2 (fun _ _ => ?_)
        refine zv_ald hB zd161_50 rfl rfl rfl ?_
        refine zv_getr hB zd161_51 rfl ?_
        refine zv_getr hB zd161_54 rfl ?_
        refine zv_ild hB zd161_57 rfl rfl ?_
        obtain ⟨c8, h⟩ := zi_if h
        refine zv_iald hB zd161_58 rfl rfl (zi_ix_ok c8).1 (zi_ix_ok c8).2 (fun _ _ => ?_)
        obtain ⟨r9, hr9, h⟩ := zi_bind h
        refine zv_cv hB (zv_emq (va2 := [.inr 2, .inr 1, .inl (g0 x1), .inl (g0 x2)]) (F := [.inl f0]) (F' := [.inl f0]) (G := [g0, g1, g2, g3, g4]) (G' := [g0, r9.2.1, r9.2.2.1, g3, r9.2.2.2]) (ρ := [2, 1, 4, 5, 6, 7]) (φ := []) (ψ := [1, 2, 3, 4]) [none] [none, some 0, some 1, some 2, some 3] zyw_Pilot_meetingPlace zyw_X_meeting zye_X_meeting (by decide +kernel) (zt_Pilot_meetingPlace hr9) trivial ⟨rfl, rfl, rfl, rfl, trivial⟩ rfl rfl rfl rfl rfl rfl rfl) zd161_59 zxt162 rfl (by decide) (by decide) rfl ?_
        refine zv_ist hB zd161_62 rfl rfl rfl ?_
        refine zv_ild hB zd161_64 rfl rfl ?_
        refine zv_con hB zd161_66 rfl ?_
        refine zv_cne hB zd161_67 rfl (fun hc10 => ?_) (fun hc10 => ?_)
        · rw [if_neg hc10] at h
          refine zv_ild hB zd161_73 rfl rfl ?_
          refine zv_con hB zd161_74 rfl ?_
          refine zv_cne hB zd161_75 rfl (fun hc11 => ?_) (fun hc11 => ?_)
          · rw [if_neg hc11] at h
            refine zv_ald hB zd161_83 rfl rfl rfl ?_
            refine zv_getr hB zd161_84 rfl ?_
            refine zv_ild hB zd161_87 rfl rfl ?_
            obtain ⟨r12, hr12, h⟩ := zi_bind h
            refine zv_cv hB (zv_emq (va2 := [.inr 2, .inl r9.1]) (F := [.inl f0]) (F' := [.inl f0]) (G := [g0, r9.2.1, r9.2.2.1, g3, r9.2.2.2]) (G' := [g0, r9.2.1, r9.2.2.1, g3, r9.2.2.2]) (ρ := [2, 4, 7]) (φ := []) (ψ := [1, 4]) [none] [none, some 0, none, none, some 1] zyw_Pilot_hoursTo zyw_X_meeting zye_X_meeting (by decide +kernel) (zt_Pilot_hoursTo hr12) trivial ⟨rfl, rfl, trivial⟩ rfl rfl rfl rfl rfl rfl rfl) zd161_89 zxt164 rfl (by decide) (by decide) rfl ?_
            have hw := Option.some.inj h
            subst hw
            exact hret _ _ _ _ _ zd161_92 (by trivial) ⟨rfl, rfl, rfl⟩
          · rw [if_pos hc11] at h
            refine zv_ild hB zd161_78 rfl rfl ?_
            refine zv_goto hB zd161_80 rfl ?_
            have hw := Option.some.inj h
            subst hw
            exact hret _ _ _ _ _ zd161_92 (by trivial) ⟨rfl, rfl, rfl⟩
        · rw [if_pos hc10] at h
          refine zv_con hB zd161_70 rfl ?_
          have hw := Option.some.inj h
          subst hw
          exact hret _ _ _ _ _ zd161_72 (by trivial) ⟨rfl, rfl, rfl⟩
      · rw [if_pos hc6] at h
        refine zv_con hB zd161_31 rfl ?_
        have hw := Option.some.inj h
        subst hw
        exact hret _ _ _ _ _ zd161_32 (by trivial) ⟨rfl, rfl, rfl⟩
/-! X_canAskVoyage (III)Z -/
-- names: 0 StarTales('arg', 0), 1 Sea(0, 0, 3), 2 Sky(0, 0, 0)
-- fields: f0 = 1.shipsTold_, f1 = 2.told_; arrays: ; out: [('ret', None)]
abbrev zy_X_canAskVoyage : zNL := (3, [(0, 0), (1, 2), (2, 1)], [(1, 2, 1, 0), (2, 1, 0, 1)], [(0, 0, 3, 1), (0, 0, 0, 2)], [])
theorem zyw_X_canAskVoyage : zv_wf zy_X_canAskVoyage = true := by decide +kernel
theorem zye_X_canAskVoyage : zv_ek2 zy_X_canAskVoyage = true := by decide +kernel
def zf_X_canAskVoyage (x1 : Int) (x2 : Int) (x3 : Int) (f0 : Int) (f1 : Int) : Option (Int) := (zf_Sea_hasShip x1 f0).bind fun r1 => (if r1 = 0 then (some 0) else ((zf_X_isPlace x2 x3).bind fun r3 => (if r3 = 0 then (some 0) else (if f1 = 0 then (some 0) else (some 1)))))
theorem zd166_0 : decode zxm166.2.1 0 = .ok (.aload_n 0, 1) := by decide +kernel
theorem zd166_1 : decode zxm166.2.1 1 = .ok (.getfield 25, 3) := by decide +kernel
theorem zd166_4 : decode zxm166.2.1 4 = .ok (.iload_n 1, 1) := by decide +kernel
theorem zd166_5 : decode zxm166.2.1 5 = .ok (.invokevirtual 323, 3) := by decide +kernel
theorem zd166_8 : decode zxm166.2.1 8 = .ok (.ifCond .eq 25, 3) := by decide +kernel
theorem zd166_11 : decode zxm166.2.1 11 = .ok (.iload_n 2, 1) := by decide +kernel
theorem zd166_12 : decode zxm166.2.1 12 = .ok (.iload_n 3, 1) := by decide +kernel
theorem zd166_13 : decode zxm166.2.1 13 = .ok (.invokestatic 130, 3) := by decide +kernel
theorem zd166_16 : decode zxm166.2.1 16 = .ok (.ifCond .eq 17, 3) := by decide +kernel
theorem zd166_19 : decode zxm166.2.1 19 = .ok (.aload_n 0, 1) := by decide +kernel
theorem zd166_20 : decode zxm166.2.1 20 = .ok (.getfield 10, 3) := by decide +kernel
theorem zd166_23 : decode zxm166.2.1 23 = .ok (.getfield 134, 3) := by decide +kernel
theorem zd166_26 : decode zxm166.2.1 26 = .ok (.ifCond .eq 7, 3) := by decide +kernel
theorem zd166_29 : decode zxm166.2.1 29 = .ok (.iconst 1, 1) := by decide +kernel
theorem zd166_30 : decode zxm166.2.1 30 = .ok (.goto 4, 3) := by decide +kernel
theorem zd166_33 : decode zxm166.2.1 33 = .ok (.iconst 0, 1) := by decide +kernel
theorem zd166_34 : decode zxm166.2.1 34 = .ok (.ireturn, 1) := by decide +kernel
theorem zt_X_canAskVoyage {x1 : Int} {x2 : Int} {x3 : Int} {f0 : Int} {f1 : Int} {o : Int} (h : zf_X_canAskVoyage x1 x2 x3 f0 f1 = some o) : zv_Fn z_TB z_cl z_KX zy_X_canAskVoyage zxm166 (1, 60) [.inr 0, .inl x1, .inl x2, .inl x3] [.inl f0, .inl f1] [] (some o) [.inl f0, .inl f1] [] := zv_meth (K := (z_KF0, z_KC0, z_KL0, z_KT0, [], [], [], none)) (FT := z_FT) (MT := z_MT) (n := 4) zxp166 (z_ks0 _ (fun _ h => List.mem_cons_of_mem _ h) _ _ _ _ (fun j r h _ => by cases h)) (fun _ _ => zs_KX_p) zyw_X_canAskVoyage (fun va F G h => by obtain ⟨rfl, _⟩ := h; rfl) (fun va F G h => by obtain ⟨rfl, _⟩ := h; rfl) rfl fun good va F G hB hret hvret hP => by
  obtain ⟨rfl, rfl, rfl⟩ := hP
  unfold zf_X_canAskVoyage at h
  refine zv_ald hB zd166_0 rfl rfl rfl ?_
  refine zv_getr hB zd166_1 rfl ?_
  refine zv_ild hB zd166_4 rfl rfl ?_
  obtain ⟨r1, hr1, h⟩ := zi_bind h
  refine zv_cv hB (zv_emq (va2 := [.inr 1, .inl x1]) (F := [.inl f0, .inl f1]) (F' := [.inl f0, .inl f1]) (G := []) (G' := []) (ρ := [1]) (φ := [0]) (ψ := []) [some 0, none] [] zyw_Sea_hasShip zyw_X_canAskVoyage zye_X_canAskVoyage (by decide +kernel) (zt_Sea_hasShip hr1) ⟨⟨_, rfl, fun _ => rfl⟩, trivial⟩ trivial rfl rfl rfl rfl rfl rfl rfl) zd166_5 zxt26 rfl (by decide) (by decide) rfl ?_
  refine zv_zeq hB zd166_8 rfl (fun hc2 => ?_) (fun hc2 => ?_)
  · rw [if_pos hc2] at h
    refine zv_con hB zd166_33 rfl ?_
    have hw := Option.some.inj h
    subst hw
    exact hret _ _ _ _ _ zd166_34 (by constructor <;> decide) ⟨rfl, rfl, rfl⟩
  · rw [if_neg hc2] at h
    refine zv_ild hB zd166_11 rfl rfl ?_
    refine zv_ild hB zd166_12 rfl rfl ?_
    obtain ⟨r3, hr3, h⟩ := zi_bind h
    refine zv_cs hB (zv_emq (va2 := [.inl x2, .inl x3]) (F := [.inl f0, .inl f1]) (F' := [.inl f0, .inl f1]) (G := []) (G' := []) (ρ := []) (φ := []) (ψ := []) [none, none] [] zyw_X_isPlace zyw_X_canAskVoyage zye_X_canAskVoyage (by decide +kernel) (zt_X_isPlace hr3) trivial trivial rfl rfl rfl rfl rfl rfl rfl) zd166_13 zxt16 rfl (by decide) (by decide) rfl ?_
    refine zv_zeq hB zd166_16 rfl (fun hc4 => ?_) (fun hc4 => ?_)
    · rw [if_pos hc4] at h
      refine zv_con hB zd166_33 rfl ?_
      have hw := Option.some.inj h
      subst hw
      exact hret _ _ _ _ _ zd166_34 (by constructor <;> decide) ⟨rfl, rfl, rfl⟩
    · rw [if_neg hc4] at h
      refine zv_ald hB zd166_19 rfl rfl rfl ?_
      refine zv_getr hB zd166_20 rfl ?_
      refine zv_getf hB zd166_23 rfl rfl (fun _ _ => ?_)
      refine zv_zeq hB zd166_26 rfl (fun hc5 => ?_) (fun hc5 => ?_)
      · rw [if_pos hc5] at h
        refine zv_con hB zd166_33 rfl ?_
        have hw := Option.some.inj h
        subst hw
        exact hret _ _ _ _ _ zd166_34 (by constructor <;> decide) ⟨rfl, rfl, rfl⟩
      · rw [if_neg hc5] at h
        refine zv_con hB zd166_29 rfl ?_
        refine zv_goto hB zd166_30 rfl ?_
        have hw := Option.some.inj h
        subst hw
        exact hret _ _ _ _ _ zd166_34 (by constructor <;> decide) ⟨rfl, rfl, rfl⟩
/-! Pilot_stepFirstLegs (LStarTales$View;LStarTales$Sea;)V -/
-- names: 0 Pilot('arg', 0), 1 View('arg', 1), 2 Sea('arg', 2), 3 Sky(1, 7, 0), 4 (0, 24)(0, 9, 4), 5 Law(1, 7, 1), 6 (0, 13)(5, 4, 12), 7 (0, 24)(3, 1, 1), 8 (0, 24)(3, 1, 2), 9 (0, 24)(3, 1, 3), 10 (0, 14)(5, 4, 3), 11 (0, 14)(5, 4, 5), 12 (0, 14)(5, 4, 6), 13 (0, 200)(5, 4, 0), 14 (0, 40)(5, 4, 13), 15 (0, 200)(5, 4, 1), 16 (0, 12)(2, 2, 0)
-- fields: f0 = 1.sky_, f1 = 3.told_, f2 = 1.law_, f3 = 1.x_, f4 = 1.y_, f5 = 3.hour_, f6 = 3.night_, f7 = 3.sightColumns_, f8 = 3.sightRows_, f9 = 3.clouds_, f10 = 5.tellsSeen_, f11 = 1.starsAsked_, f12 = 1.starsHold_, f13 = 5.clauses_, f14 = 5.answer_, f15 = 5.seenByPlace_; arrays: g0 = 4, g1 = 6, g2 = 7, g3 = 8, g4 = 9, g5 = 10, g6 = 11, g7 = 12, g8 = 13, g9 = 14, g10 = 15, g11 = 16; out: [('f', 3), ('f', 4), ('f', 11), ('f', 12), ('f', 14), ('g', 0), ('g', 1), ('g', 9)]
abbrev zy_Pilot_stepFirstLegs : zNL := (17, [(0, 9), (1, 7), (2, 2), (3, 1), (5, 4)], [(1, 7, 0, 0), (3, 1, 0, 1), (1, 7, 1, 2), (1, 7, 2, 3), (1, 7, 3, 4), (3, 1, 6, 5), (3, 1, 7, 6), (3, 1, 9, 7), (3, 1, 10, 8), (3, 1, 8, 9), (5, 4, 8, 10), (1, 7, 6, 11), (1, 7, 7, 12), (5, 4, 7, 13), (5, 4, 14, 14), (5, 4, 10, 15)], [(0, 9, 4, 4), (5, 4, 12, 6), (3, 1, 1, 7), (3, 1, 2, 8), (3, 1, 3, 9), (5, 4, 3, 10), (5, 4, 5, 11), (5, 4, 6, 12), (5, 4, 0, 13), (5, 4, 13, 14), (5, 4, 1, 15), (2, 2, 0, 16)], [(4, 0, 24, 0), (6, 0, 13, 1), (7, 0, 24, 2), (8, 0, 24, 3), (9, 0, 24, 4), (10, 0, 14, 5), (11, 0, 14, 6), (12, 0, 14, 7), (13, 0, 200, 8), (14, 0, 40, 9), (15, 0, 200, 10), (16, 0, 12, 11)])
theorem zyw_Pilot_stepFirstLegs : zv_wf zy_Pilot_stepFirstLegs = true := by decide +kernel
theorem zye_Pilot_stepFirstLegs : zv_ek2 zy_Pilot_stepFirstLegs = true := by decide +kernel
def zf_Pilot_stepFirstLegs_l0_b (f1 : Int) (f5 : Int) (f6 : Int) (f7 : Int) (f8 : Int) (f9 : Int) (f10 : Int) (f13 : Int) (f15 : Int) (g2 : (Int → Int)) (g3 : (Int → Int)) (g4 : (Int → Int)) (g5 : (Int → Int)) (g6 : (Int → Int)) (g7 : (Int → Int)) (g8 : (Int → Int)) (g10 : (Int → Int)) (g11 : (Int → Int)) (rec : Int → Int → Int → Int → Int → Int → (Int → Int) → (Int → Int) → (Int → Int) → Option (Int × Int × Int × Int × Int × (Int → Int) × (Int → Int) × (Int → Int))) (x3 : Int) (f3 : Int) (f4 : Int) (f11 : Int) (f12 : Int) (f14 : Int) (g0 : (Int → Int)) (g1 : (Int → Int)) (g9 : (Int → Int)) : Option (Int × Int × Int × Int × Int × (Int → Int) × (Int → Int) × (Int → Int)) := if x3 < 24 then ((zf_Sky_hasStar x3 f1).bind fun r2 => (if r2 = 0 then (rec (zi_w (x3 + 1)) f3 f4 f11 f12 f14 g0 g1 g9) else (cond (zi_ix x3 24) ((zf_Pilot_step (g0 x3) x3 f3 f4 f5 f6 f1 f7 f8 f9 f10 f11 f12 f13 f14 f15 g1 g2 g3 g4 g5 g6 g7 g8 g9 g10 g11).bind fun r5 => (rec (zi_w (x3 + 1)) r5.2.1 r5.2.2.1 r5.2.2.2.1 r5.2.2.2.2.1 r5.2.2.2.2.2.1 (zv_up g0 x3 r5.1) r5.2.2.2.2.2.2.1 r5.2.2.2.2.2.2.2)) none))) else (some (f3, f4, f11, f12, f14, g0, g1, g9))
def zf_Pilot_stepFirstLegs_l0 (f1 : Int) (f5 : Int) (f6 : Int) (f7 : Int) (f8 : Int) (f9 : Int) (f10 : Int) (f13 : Int) (f15 : Int) (g2 : (Int → Int)) (g3 : (Int → Int)) (g4 : (Int → Int)) (g5 : (Int → Int)) (g6 : (Int → Int)) (g7 : (Int → Int)) (g8 : (Int → Int)) (g10 : (Int → Int)) (g11 : (Int → Int)) : Nat → Int → Int → Int → Int → Int → Int → (Int → Int) → (Int → Int) → (Int → Int) → Option (Int × Int × Int × Int × Int × (Int → Int) × (Int → Int) × (Int → Int))
  | 0, _, _, _, _, _, _, _, _, _ => none
  | n + 1, x3, f3, f4, f11, f12, f14, g0, g1, g9 => zf_Pilot_stepFirstLegs_l0_b f1 f5 f6 f7 f8 f9 f10 f13 f15 g2 g3 g4 g5 g6 g7 g8 g10 g11 (zf_Pilot_stepFirstLegs_l0 f1 f5 f6 f7 f8 f9 f10 f13 f15 g2 g3 g4 g5 g6 g7 g8 g10 g11 n) x3 f3 f4 f11 f12 f14 g0 g1 g9
def zf_Pilot_stepFirstLegs (f1 : Int) (f3 : Int) (f4 : Int) (f5 : Int) (f6 : Int) (f7 : Int) (f8 : Int) (f9 : Int) (f10 : Int) (f11 : Int) (f12 : Int) (f13 : Int) (f14 : Int) (f15 : Int) (g0 : (Int → Int)) (g1 : (Int → Int)) (g2 : (Int → Int)) (g3 : (Int → Int)) (g4 : (Int → Int)) (g5 : (Int → Int)) (g6 : (Int → Int)) (g7 : (Int → Int)) (g8 : (Int → Int)) (g9 : (Int → Int)) (g10 : (Int → Int)) (g11 : (Int → Int)) : Option (Int × Int × Int × Int × Int × (Int → Int) × (Int → Int) × (Int → Int)) := (zf_Pilot_stepFirstLegs_l0 f1 f5 f6 f7 f8 f9 f10 f13 f15 g2 g3 g4 g5 g6 g7 g8 g10 g11 zi_fu 0 f3 f4 f11 f12 f14 g0 g1 g9).bind fun q6 => (some (q6.1, q6.2.1, q6.2.2.1, q6.2.2.2.1, q6.2.2.2.2.1, q6.2.2.2.2.2.1, q6.2.2.2.2.2.2.1, q6.2.2.2.2.2.2.2))
theorem zd168_0 : decode zxm168.2.1 0 = .ok (.iconst 0, 1) := by decide +kernel
theorem zd168_1 : decode zxm168.2.1 1 = .ok (.istore_n 3, 1) := by decide +kernel
theorem zd168_2 : decode zxm168.2.1 2 = .ok (.iload_n 3, 1) := by decide +kernel
theorem zd168_3 : decode zxm168.2.1 3 = .ok (.bipush 24, 2) := by decide +kernel
theorem zd168_5 : decode zxm168.2.1 5 = .ok (.if_icmp .ge 39, 3) := by decide +kernel
theorem zd168_8 : decode zxm168.2.1 8 = .ok (.aload_n 1, 1) := by decide +kernel
theorem zd168_9 : decode zxm168.2.1 9 = .ok (.getfield 75, 3) := by decide +kernel
theorem zd168_12 : decode zxm168.2.1 12 = .ok (.iload_n 3, 1) := by decide +kernel
theorem zd168_13 : decode zxm168.2.1 13 = .ok (.invokevirtual 120, 3) := by decide +kernel
theorem zd168_16 : decode zxm168.2.1 16 = .ok (.ifCond .eq 22, 3) := by decide +kernel
theorem zd168_19 : decode zxm168.2.1 19 = .ok (.aload_n 0, 1) := by decide +kernel
theorem zd168_20 : decode zxm168.2.1 20 = .ok (.getfield 24, 3) := by decide +kernel
theorem zd168_23 : decode zxm168.2.1 23 = .ok (.iload_n 3, 1) := by decide +kernel
theorem zd168_24 : decode zxm168.2.1 24 = .ok (.aload_n 0, 1) := by decide +kernel
theorem zd168_25 : decode zxm168.2.1 25 = .ok (.aload_n 1, 1) := by decide +kernel
theorem zd168_26 : decode zxm168.2.1 26 = .ok (.aload_n 2, 1) := by decide +kernel
theorem zd168_27 : decode zxm168.2.1 27 = .ok (.aload_n 0, 1) := by decide +kernel
theorem zd168_28 : decode zxm168.2.1 28 = .ok (.getfield 24, 3) := by decide +kernel
theorem zd168_31 : decode zxm168.2.1 31 = .ok (.iload_n 3, 1) := by decide +kernel
theorem zd168_32 : decode zxm168.2.1 32 = .ok (.iaload, 1) := by decide +kernel
theorem zd168_33 : decode zxm168.2.1 33 = .ok (.iload_n 3, 1) := by decide +kernel
theorem zd168_34 : decode zxm168.2.1 34 = .ok (.invokevirtual 150, 3) := by decide +kernel
theorem zd168_37 : decode zxm168.2.1 37 = .ok (.iastore, 1) := by decide +kernel
theorem zd168_38 : decode zxm168.2.1 38 = .ok (.iinc 3 1, 3) := by decide +kernel
theorem zd168_41 : decode zxm168.2.1 41 = .ok (.goto (-39), 3) := by decide +kernel
theorem zd168_44 : decode zxm168.2.1 44 = .ok (.return_, 1) := by decide +kernel
theorem zt_Pilot_stepFirstLegs {f1 : Int} {f3 : Int} {f4 : Int} {f5 : Int} {f6 : Int} {f7 : Int} {f8 : Int} {f9 : Int} {f10 : Int} {f11 : Int} {f12 : Int} {f13 : Int} {f14 : Int} {f15 : Int} {g0 : (Int → Int)} {g1 : (Int → Int)} {g2 : (Int → Int)} {g3 : (Int → Int)} {g4 : (Int → Int)} {g5 : (Int → Int)} {g6 : (Int → Int)} {g7 : (Int → Int)} {g8 : (Int → Int)} {g9 : (Int → Int)} {g10 : (Int → Int)} {g11 : (Int → Int)} {o : Int × Int × Int × Int × Int × (Int → Int) × (Int → Int) × (Int → Int)} (h : zf_Pilot_stepFirstLegs f1 f3 f4 f5 f6 f7 f8 f9 f10 f11 f12 f13 f14 f15 g0 g1 g2 g3 g4 g5 g6 g7 g8 g9 g10 g11 = some o) : zv_Fn z_TB z_cl z_KX zy_Pilot_stepFirstLegs zxm168 (5, 300) [.inr 0, .inr 1, .inr 2] [.inr 3, .inl f1, .inr 5, .inl f3, .inl f4, .inl f5, .inl f6, .inl f7, .inl f8, .inl f9, .inl f10, .inl f11, .inl f12, .inl f13, .inl f14, .inl f15] [g0, g1, g2, g3, g4, g5, g6, g7, g8, g9, g10, g11] none [.inr 3, .inl f1, .inr 5, .inl o.1, .inl o.2.1, .inl f5, .inl f6, .inl f7, .inl f8, .inl f9, .inl f10, .inl o.2.2.1, .inl o.2.2.2.1, .inl f13, .inl o.2.2.2.2.1, .inl f15] [o.2.2.2.2.2.1, o.2.2.2.2.2.2.1, g2, g3, g4, g5, g6, g7, g8, o.2.2.2.2.2.2.2, g10, g11] := zv_meth (K := (z_KF6, z_KC6, z_KL6, z_KT6, [], [], [], none)) (FT := z_FT) (MT := z_MT) (n := 3) zxp168 (z_ks6 _ (fun _ h => List.mem_cons_of_mem _ h) _ _ _ _ (fun j r h _ => by cases h)) (fun _ _ => zs_KX_p) zyw_Pilot_stepFirstLegs (fun va F G h => by obtain ⟨rfl, _⟩ := h; rfl) (fun va F G h => by obtain ⟨rfl, _⟩ := h; rfl) rfl fun good va F G hB hret hvret hP => by
  obtain ⟨rfl, rfl, rfl⟩ := hP
  have l0 : ∀ (n : Nat) (x3 : Int) (f3 : Int) (f4 : Int) (f11 : Int) (f12 : Int) (f14 : Int) (g0 : (Int → Int)) (g1 : (Int → Int)) (g9 : (Int → Int)) (q : Int × Int × Int × Int × Int × (Int → Int) × (Int → Int) × (Int → Int)), zf_Pilot_stepFirstLegs_l0 f1 f5 f6 f7 f8 f9 f10 f13 f15 g2 g3 g4 g5 g6 g7 g8 g10 g11 n x3 f3 f4 f11 f12 f14 g0 g1 g9 = some q → (good 44 [.inr 1000, .inr 1000, .inr 1000, .inr 1000] [] [.inr 3, .inl f1, .inr 5, .inl q.1, .inl q.2.1, .inl f5, .inl f6, .inl f7, .inl f8, .inl f9, .inl f10, .inl q.2.2.1, .inl q.2.2.2.1, .inl f13, .inl q.2.2.2.2.1, .inl f15] [q.2.2.2.2.2.1, q.2.2.2.2.2.2.1, g2, g3, g4, g5, g6, g7, g8, q.2.2.2.2.2.2.2, g10, g11]) → good 2 [.inr 0, .inr 1, .inr 2, .inl x3] [] [.inr 3, .inl f1, .inr 5, .inl f3, .inl f4, .inl f5, .inl f6, .inl f7, .inl f8, .inl f9, .inl f10, .inl f11, .inl f12, .inl f13, .inl f14, .inl f15] [g0, g1, g2, g3, g4, g5, g6, g7, g8, g9, g10, g11] := by
    intro n
    induction n with
    | zero => intro x3 f3 f4 f11 f12 f14 g0 g1 g9 q h; exact absurd (show none = some q from h) (fun h => by cases h)
    | succ n ih =>
      intro x3 f3 f4 f11 f12 f14 g0 g1 g9 q h hK
      replace h : zf_Pilot_stepFirstLegs_l0_b f1 f5 f6 f7 f8 f9 f10 f13 f15 g2 g3 g4 g5 g6 g7 g8 g10 g11 (zf_Pilot_stepFirstLegs_l0 f1 f5 f6 f7 f8 f9 f10 f13 f15 g2 g3 g4 g5 g6 g7 g8 g10 g11 n) x3 f3 f4 f11 f12 f14 g0 g1 g9 = some q := h
      unfold zf_Pilot_stepFirstLegs_l0_b at h
      refine zv_ild hB zd168_2 rfl rfl ?_
      refine zv_con hB zd168_3 rfl ?_
      refine zv_cge hB zd168_5 rfl (fun hc1 => ?_) (fun hc1 => ?_)
      · rw [if_neg (Int.not_lt.mpr hc1)] at h
        have hq := Option.some.inj h
        subst hq
        refine zv_wk hB (L' := [.inr 1000, .inr 1000, .inr 1000, .inr 1000]) (F' := [.inr 3, .inl f1, .inr 5, .inl f3, .inl f4, .inl f5, .inl f6, .inl f7, .inl f8, .inl f9, .inl f10, .inl f11, .inl f12, .inl f13, .inl f14, .inl f15]) ⟨fun (h : zv_is (.inr 1000)) => (Nat.lt_irrefl 1000 h).elim, fun (h : zv_is (.inr 1000)) => (Nat.lt_irrefl 1000 h).elim, fun (h : zv_is (.inr 1000)) => (Nat.lt_irrefl 1000 h).elim, fun (h : zv_is (.inr 1000)) => (Nat.lt_irrefl 1000 h).elim, trivial⟩ ⟨fun _ => rfl, fun _ => rfl, fun _ => rfl, fun _ => rfl, fun _ => rfl, fun _ => rfl, fun _ => rfl, fun _ => rfl, fun _ => rfl, fun _ => rfl, fun _ => rfl, fun _ => rfl, fun _ => rfl, fun _ => rfl, fun _ => rfl, fun _ => rfl, trivial⟩ ?_
        exact hK
      · rw [if_pos hc1] at h
        refine zv_ald hB zd168_8 rfl rfl rfl ?_
        refine zv_getq hB zd168_9 rfl rfl rfl ?_
        refine zv_ild hB zd168_12 rfl rfl ?_
        obtain ⟨r2, hr2, h⟩ := zi_bind h
        refine zv_cv hB (zv_emq (va2 := [.inr 3, .inl x3]) (F := [.inr 3, .inl f1, .inr 5, .inl f3, .inl f4, .inl f5, .inl f6, .inl f7, .inl f8, .inl f9, .inl f10, .inl f11, .inl f12, .inl f13, .inl f14, .inl f15]) (F' := [.inr 3, .inl f1, .inr 5, .inl f3, .inl f4, .inl f5, .inl f6, .inl f7, .inl f8, .inl f9, .inl f10, .inl f11, .inl f12, .inl f13, .inl f14, .inl f15]) (G := [g0, g1, g2, g3, g4, g5, g6, g7, g8, g9, g10, g11]) (G' := [g0, g1, g2, g3, g4, g5, g6, g7, g8, g9, g10, g11]) (ρ := [3]) (φ := [1]) (ψ := []) [none, some 0, none, none, none, none, none, none, none, none, none, none, none, none, none, none] [none, none, none, none, none, none, none, none, none, none, none, none] zyw_Sky_hasStar zyw_Pilot_stepFirstLegs zye_Pilot_stepFirstLegs (by decide +kernel) (zt_Sky_hasStar hr2) ⟨⟨_, rfl, fun _ => rfl⟩, trivial⟩ trivial rfl rfl rfl rfl rfl rfl rfl) zd168_13 zxt18 rfl (by decide) (by decide) rfl ?_
        refine zv_zeq hB zd168_16 rfl (fun hc3 => ?_) (fun hc3 => ?_)
        · rw [if_pos hc3] at h
          refine zv_iincw hB zd168_38 rfl rfl ?_
          refine zv_goto hB zd168_41 rfl ?_
          exact ih _ _ _ _ _ _ _ _ _ q h hK
        · rw [if_neg hc3] at h
          refine zv_ald hB zd168_19 rfl rfl rfl ?_
          refine zv_getr hB zd168_20 rfl ?_
          refine zv_ild hB zd168_23 rfl rfl ?_
          refine zv_ald hB zd168_24 rfl rfl rfl ?_
          refine zv_ald hB zd168_25 rfl rfl rfl ?_
          refine zv_ald hB zd168_26 rfl rfl rfl ?_
          refine zv_ald hB zd168_27 rfl rfl rfl ?_
          refine zv_getr hB zd168_28 rfl ?_
          refine zv_ild hB zd168_31 rfl rfl ?_
          obtain ⟨c4, h⟩ := zi_if h
          refine zv_iald hB zd168_32 rfl rfl (zi_ix_ok c4).1 (zi_ix_ok c4).2 (fun _ _ => ?_)
          refine zv_ild hB zd168_33 rfl rfl ?_
          obtain ⟨r5, hr5, h⟩ := zi_bind h
          refine zv_cv hB (zv_emq (va2 := [.inr 0, .inr 1, .inr 2, .inl (g0 x3), .inl x3]) (F := [.inr 3, .inl f1, .inr 5, .inl f3, .inl f4, .inl f5, .inl f6, .inl f7, .inl f8, .inl f9, .inl f10, .inl f11, .inl f12, .inl f13, .inl f14, .inl f15]) (F' := [.inr 3, .inl f1, .inr 5, .inl r5.2.1, .inl r5.2.2.1, .inl f5, .inl f6, .inl f7, .inl f8, .inl f9, .inl f10, .inl r5.2.2.2.1, .inl r5.2.2.2.2.1, .inl f13, .inl r5.2.2.2.2.2.1, .inl f15]) (G := [g0, g1, g2, g3, g4, g5, g6, g7, g8, g9, g10, g11]) (G' := [g0, r5.2.2.2.2.2.2.1, g2, g3, g4, g5, g6, g7, g8, r5.2.2.2.2.2.2.2, g10, g11]) (ρ := [0, 1, 2, 5, 6, 3, 7, 8, 9, 10, 11, 12, 13, 14, 15, 16]) (φ := [2, 0, 3, 4, 5, 6, 1, 7, 8, 9, 10, 11, 12, 13, 14, 15]) (ψ := [1, 2, 3, 4, 5, 6, 7, 8, 9, 10, 11]) [some 1, some 6, some 0, some 2, some 3, some 4, some 5, some 7, some 8, some 9, some 10, some 11, some 12, some 13, some 14, some 15] [none, some 0, some 1, some 2, some 3, some 4, some 5, some 6, some 7, some 8, some 9, some 10] zyw_Pilot_step zyw_Pilot_stepFirstLegs zye_Pilot_stepFirstLegs (by decide +kernel) (zt_Pilot_step hr5) ⟨⟨_, rfl, fun _ => rfl⟩, ⟨_, rfl, fun _ => rfl⟩, ⟨_, rfl, fun _ => rfl⟩, ⟨_, rfl, fun _ => rfl⟩, ⟨_, rfl, fun _ => rfl⟩, ⟨_, rfl, fun _ => rfl⟩, ⟨_, rfl, fun _ => rfl⟩, ⟨_, rfl, fun _ => rfl⟩, ⟨_, rfl, fun _ => rfl⟩, ⟨_, rfl, fun _ => rfl⟩, ⟨_, rfl, fun _ => rfl⟩, ⟨_, rfl, fun _ => rfl⟩, ⟨_, rfl, fun _ => rfl⟩, ⟨_, rfl, fun _ => rfl⟩, ⟨_, rfl, fun _ => rfl⟩, ⟨_, rfl, fun _ => rfl⟩, trivial⟩ ⟨rfl, rfl, rfl, rfl, rfl, rfl, rfl, rfl, rfl, rfl, rfl, trivial⟩ rfl rfl rfl rfl rfl rfl rfl) zd168_34 zxt153 rfl (by decide) (by decide) rfl ?_
          refine zv_iast hB zd168_37 rfl rfl (zi_ix_ok c4).1 (zi_ix_ok c4).2 ?_
          refine zv_iincw hB zd168_38 rfl rfl ?_
          refine zv_goto hB zd168_41 rfl ?_
          exact ih _ _ _ _ _ _ _ _ _ q h hK
  unfold zf_Pilot_stepFirstLegs at h
  refine zv_con hB zd168_0 rfl ?_
  refine zv_ist hB zd168_1 rfl rfl rfl ?_
  obtain ⟨q6, hq6, h⟩ := zi_bind h
  refine l0 _ _ _ _ _ _ _ _ _ _ q6 hq6 ?_
  show good 44 [.inr 1000, .inr 1000, .inr 1000, .inr 1000] [] [.inr 3, .inl f1, .inr 5, .inl q6.1, .inl q6.2.1, .inl f5, .inl f6, .inl f7, .inl f8, .inl f9, .inl f10, .inl q6.2.2.1, .inl q6.2.2.2.1, .inl f13, .inl q6.2.2.2.2.1, .inl f15] [q6.2.2.2.2.2.1, q6.2.2.2.2.2.2.1, g2, g3, g4, g5, g6, g7, g8, q6.2.2.2.2.2.2.2, g10, g11]
  have hw := Option.some.inj h
  subst hw
  exact hvret _ _ _ _ zd168_44 trivial ⟨rfl, rfl, rfl⟩
/-! Pilot_turnOnward (LStarTales$View;)V -/
-- names: 0 Pilot('arg', 0), 1 View('arg', 1), 2 Sky(1, 7, 0), 3 (0, 24)(2, 1, 1), 4 (0, 24)(2, 1, 4), 5 (0, 24)(2, 1, 2), 6 (0, 24)(2, 1, 5), 7 Law(1, 7, 1), 8 (0, 24)(1, 7, 8)
-- fields: f0 = 1.sky_, f1 = 2.hour_, f2 = 2.night_, f3 = 1.law_, f4 = 1.starsAsked_; arrays: g0 = 3, g1 = 4, g2 = 5, g3 = 6, g4 = 8; out: [('f', 1), ('f', 2), ('f', 4), ('g', 0), ('g', 2), ('g', 4)]
abbrev zy_Pilot_turnOnward : zNL := (9, [(0, 9), (1, 7), (2, 1), (7, 4)], [(1, 7, 0, 0), (2, 1, 6, 1), (2, 1, 7, 2), (1, 7, 1, 3), (1, 7, 6, 4)], [(2, 1, 1, 3), (2, 1, 4, 4), (2, 1, 2, 5), (2, 1, 5, 6), (1, 7, 8, 8)], [(3, 0, 24, 0), (4, 0, 24, 1), (5, 0, 24, 2), (6, 0, 24, 3), (8, 0, 24, 4)])
theorem zyw_Pilot_turnOnward : zv_wf zy_Pilot_turnOnward = true := by decide +kernel
theorem zye_Pilot_turnOnward : zv_ek2 zy_Pilot_turnOnward = true := by decide +kernel
def zf_Pilot_turnOnward (f1 : Int) (f2 : Int) (f4 : Int) (g0 : (Int → Int)) (g1 : (Int → Int)) (g2 : (Int → Int)) (g3 : (Int → Int)) (g4 : (Int → Int)) : Option (Int × Int × Int × (Int → Int) × (Int → Int) × (Int → Int)) := (zf_Sky_passHour f1 f2 g0 g1 g2 g3).bind fun r1 => ((zf_View_open f4 g4).bind fun r2 => (some (r1.1, r1.2.1, r2.1, r1.2.2.1, r1.2.2.2, r2.2)))
theorem zd169_0 : decode zxm169.2.1 0 = .ok (.aload_n 1, 1) := by decide +kernel
theorem zd169_1 : decode zxm169.2.1 1 = .ok (.getfield 75, 3) := by decide +kernel
theorem zd169_4 : decode zxm169.2.1 4 = .ok (.invokevirtual 147, 3) := by decide +kernel
theorem zd169_7 : decode zxm169.2.1 7 = .ok (.aload_n 1, 1) := by decide +kernel
theorem zd169_8 : decode zxm169.2.1 8 = .ok (.aload_n 1, 1) := by decide +kernel
theorem zd169_9 : decode zxm169.2.1 9 = .ok (.getfield 75, 3) := by decide +kernel
theorem zd169_12 : decode zxm169.2.1 12 = .ok (.aload_n 1, 1) := by decide +kernel
theorem zd169_13 : decode zxm169.2.1 13 = .ok (.getfield 135, 3) := by decide +kernel
theorem zd169_16 : decode zxm169.2.1 16 = .ok (.invokevirtual 139, 3) := by decide +kernel
theorem zd169_19 : decode zxm169.2.1 19 = .ok (.return_, 1) := by decide +kernel
theorem zt_Pilot_turnOnward {f1 : Int} {f2 : Int} {f4 : Int} {g0 : (Int → Int)} {g1 : (Int → Int)} {g2 : (Int → Int)} {g3 : (Int → Int)} {g4 : (Int → Int)} {o : Int × Int × Int × (Int → Int) × (Int → Int) × (Int → Int)} (h : zf_Pilot_turnOnward f1 f2 f4 g0 g1 g2 g3 g4 = some o) : zv_Fn z_TB z_cl z_KX zy_Pilot_turnOnward zxm169 (4, 240) [.inr 0, .inr 1] [.inr 2, .inl f1, .inl f2, .inr 7, .inl f4] [g0, g1, g2, g3, g4] none [.inr 2, .inl o.1, .inl o.2.1, .inr 7, .inl o.2.2.1] [o.2.2.2.1, g1, o.2.2.2.2.1, g3, o.2.2.2.2.2] := zv_meth (K := (z_KF6, z_KC6, z_KL6, z_KT6, [], [], [], none)) (FT := z_FT) (MT := z_MT) (n := 2) zxp169 (z_ks6 _ (fun _ h => List.mem_cons_of_mem _ h) _ _ _ _ (fun j r h _ => by cases h)) (fun _ _ => zs_KX_p) zyw_Pilot_turnOnward (fun va F G h => by obtain ⟨rfl, _⟩ := h; rfl) (fun va F G h => by obtain ⟨rfl, _⟩ := h; rfl) rfl fun good va F G hB hret hvret hP => by
  obtain ⟨rfl, rfl, rfl⟩ := hP
  unfold zf_Pilot_turnOnward at h
  refine zv_ald hB zd169_0 rfl rfl rfl ?_
  refine zv_getq hB zd169_1 rfl rfl rfl ?_
  obtain ⟨r1, hr1, h⟩ := zi_bind h
  refine zv_cv hB (zv_emq (va2 := [.inr 2]) (F := [.inr 2, .inl f1, .inl f2, .inr 7, .inl f4]) (F' := [.inr 2, .inl r1.1, .inl r1.2.1, .inr 7, .inl f4]) (G := [g0, g1, g2, g3, g4]) (G' := [r1.2.2.1, g1, r1.2.2.2, g3, g4]) (ρ := [2, 3, 4, 5, 6]) (φ := [1, 2]) (ψ := [0, 1, 2, 3]) [none, some 0, some 1, none, none] [some 0, some 1, some 2, some 3, none] zyw_Sky_passHour zyw_Pilot_turnOnward zye_Pilot_turnOnward (by decide +kernel) (zt_Sky_passHour hr1) ⟨⟨_, rfl, fun _ => rfl⟩, ⟨_, rfl, fun _ => rfl⟩, trivial⟩ ⟨rfl, rfl, rfl, rfl, trivial⟩ rfl rfl rfl rfl rfl rfl rfl) zd169_4 zxt155 rfl (by decide) (by decide) rfl ?_
  refine zv_ald hB zd169_7 rfl rfl rfl ?_
  refine zv_ald hB zd169_8 rfl rfl rfl ?_
  refine zv_getq hB zd169_9 rfl rfl rfl ?_
  refine zv_ald hB zd169_12 rfl rfl rfl ?_
  refine zv_getq hB zd169_13 rfl rfl rfl ?_
  obtain ⟨r2, hr2, h⟩ := zi_bind h
  refine zv_cv hB (zv_emq (va2 := [.inr 1, .inr 2, .inr 7]) (F := [.inr 2, .inl r1.1, .inl r1.2.1, .inr 7, .inl f4]) (F' := [.inr 2, .inl r1.1, .inl r1.2.1, .inr 7, .inl r2.1]) (G := [r1.2.2.1, g1, r1.2.2.2, g3, g4]) (G' := [r1.2.2.1, g1, r1.2.2.2, g3, r2.2]) (ρ := [1, 2, 7, 8]) (φ := [0, 3, 4]) (ψ := [4]) [some 0, none, none, some 1, some 2] [none, none, none, none, some 0] zyw_View_open zyw_Pilot_turnOnward zye_Pilot_turnOnward (by decide +kernel) (zt_View_open hr2) ⟨⟨_, rfl, fun (h : zv_is (.inr 1000)) => (Nat.lt_irrefl 1000 h).elim⟩, ⟨_, rfl, fun (h : zv_is (.inr 1000)) => (Nat.lt_irrefl 1000 h).elim⟩, ⟨_, rfl, fun _ => rfl⟩, trivial⟩ ⟨rfl, trivial⟩ rfl rfl rfl rfl rfl rfl rfl) zd169_16 zxt84 rfl (by decide) (by decide) rfl ?_
  have hw := Option.some.inj h
  subst hw
  exact hvret _ _ _ _ zd169_19 trivial ⟨rfl, rfl, rfl⟩
end
section
/-! Methods as functions, and that they do what these do. -/
/-! Pilot_findFastest (LStarTales$View;LStarTales$Sea;III)Z -/
-- names: 0 Pilot('arg', 0), 1 View('arg', 1), 2 Sea('arg', 2), 3 Sky(1, 7, 0), 4 (0, 24)(0, 9, 4), 5 Law(1, 7, 1), 6 (0, 13)(5, 4, 12), 7 (0, 24)(3, 1, 1), 8 (0, 24)(3, 1, 2), 9 (0, 24)(3, 1, 3), 10 (0, 14)(5, 4, 3), 11 (0, 14)(5, 4, 5), 12 (0, 14)(5, 4, 6), 13 (0, 200)(5, 4, 0), 14 (0, 40)(5, 4, 13), 15 (0, 200)(5, 4, 1), 16 (0, 12)(2, 2, 0), 17 (0, 24)(3, 1, 4), 18 (0, 24)(3, 1, 5), 19 (0, 24)(1, 7, 8)
-- fields: f0 = 1.sky_, f1 = 1.law_, f2 = 3.told_, f3 = 1.x_, f4 = 1.y_, f5 = 3.hour_, f6 = 3.night_, f7 = 3.sightColumns_, f8 = 3.sightRows_, f9 = 3.clouds_, f10 = 5.tellsSeen_, f11 = 1.starsAsked_, f12 = 1.starsHold_, f13 = 5.clauses_, f14 = 5.answer_, f15 = 5.seenByPlace_, f16 = 0.hoursTaken_, f17 = 0.firstStar_; arrays: g0 = 4, g1 = 6, g2 = 7, g3 = 8, g4 = 9, g5 = 10, g6 = 11, g7 = 12, g8 = 13, g9 = 14, g10 = 15, g11 = 16, g12 = 17, g13 = 18, g14 = 19; out: [('ret', None), ('f', 3), ('f', 4), ('f', 5), ('f', 6), ('f', 11), ('f', 12), ('f', 14), ('f', 16), ('f', 17), ('g', 0), ('g', 1), ('g', 2), ('g', 3), ('g', 9), ('g', 14)]
abbrev zy_Pilot_findFastest : zNL := (20, [(0, 9), (1, 7), (2, 2), (3, 1), (5, 4)], [(1, 7, 0, 0), (1, 7, 1, 1), (3, 1, 0, 2), (1, 7, 2, 3), (1, 7, 3, 4), (3, 1, 6, 5), (3, 1, 7, 6), (3, 1, 9, 7), (3, 1, 10, 8), (3, 1, 8, 9), (5, 4, 8, 10), (1, 7, 6, 11), (1, 7, 7, 12), (5, 4, 7, 13), (5, 4, 14, 14), (5, 4, 10, 15), (0, 9, 0, 16), (0, 9, 1, 17)], [(0, 9, 4, 4), (5, 4, 12, 6), (3, 1, 1, 7), (3, 1, 2, 8), (3, 1, 3, 9), (5, 4, 3, 10), (5, 4, 5, 11), (5, 4, 6, 12), (5, 4, 0, 13), (5, 4, 13, 14), (5, 4, 1, 15), (2, 2, 0, 16), (3, 1, 4, 17), (3, 1, 5, 18), (1, 7, 8, 19)], [(4, 0, 24, 0), (6, 0, 13, 1), (7, 0, 24, 2), (8, 0, 24, 3), (9, 0, 24, 4), (10, 0, 14, 5), (11, 0, 14, 6), (12, 0, 14, 7), (13, 0, 200, 8), (14, 0, 40, 9), (15, 0, 200, 10), (16, 0, 12, 11), (17, 0, 24, 12), (18, 0, 24, 13), (19, 0, 24, 14)])
theorem zyw_Pilot_findFastest : zv_wf zy_Pilot_findFastest = true := by decide +kernel
theorem zye_Pilot_findFastest : zv_ek2 zy_Pilot_findFastest = true := by decide +kernel
def zf_Pilot_findFastest_l1_b (x4 : Int) (x7 : Int) (f2 : Int) (f3 : Int) (f4 : Int) (f5 : Int) (f6 : Int) (f11 : Int) (f12 : Int) (f14 : Int) (g0 : (Int → Int)) (g1 : (Int → Int)) (g2 : (Int → Int)) (g3 : (Int → Int)) (g9 : (Int → Int)) (g14 : (Int → Int)) (rec : Int → Option (((Unit) ⊕ (Int × Int × Int × Int × Int × Int × Int × Int × Int × Int × (Int → Int) × (Int → Int) × (Int → Int) × (Int → Int) × (Int → Int) × (Int → Int))))) (x8 : Int) : Option (((Unit) ⊕ (Int × Int × Int × Int × Int × Int × Int × Int × Int × Int × (Int → Int) × (Int → Int) × (Int → Int) × (Int → Int) × (Int → Int) × (Int → Int)))) := if x8 < 24 then ((zf_Sky_hasStar x8 f2).bind fun r6 => (if r6 = 0 then (rec (zi_w (x8 + 1))) else (cond (zi_ix x8 24) (if (g0 x8) = x4 then (some (.inr (1, f3, f4, f5, f6, f11, f12, f14, x7, x8, g0, g1, g2, g3, g9, g14))) else (rec (zi_w (x8 + 1)))) none))) else (some (.inl ()))
def zf_Pilot_findFastest_l1 (x4 : Int) (x7 : Int) (f2 : Int) (f3 : Int) (f4 : Int) (f5 : Int) (f6 : Int) (f11 : Int) (f12 : Int) (f14 : Int) (g0 : (Int → Int)) (g1 : (Int → Int)) (g2 : (Int → Int)) (g3 : (Int → Int)) (g9 : (Int → Int)) (g14 : (Int → Int)) : Nat → Int → Option (((Unit) ⊕ (Int × Int × Int × Int × Int × Int × Int × Int × Int × Int × (Int → Int) × (Int → Int) × (Int → Int) × (Int → Int) × (Int → Int) × (Int → Int))))
  | 0, _ => none
  | n + 1, x8 => zf_Pilot_findFastest_l1_b x4 x7 f2 f3 f4 f5 f6 f11 f12 f14 g0 g1 g2 g3 g9 g14 (zf_Pilot_findFastest_l1 x4 x7 f2 f3 f4 f5 f6 f11 f12 f14 g0 g1 g2 g3 g9 g14 n) x8
def zf_Pilot_findFastest_l0_b (x4 : Int) (x5 : Int) (f2 : Int) (f7 : Int) (f8 : Int) (f9 : Int) (f10 : Int) (f13 : Int) (f15 : Int) (g4 : (Int → Int)) (g5 : (Int → Int)) (g6 : (Int → Int)) (g7 : (Int → Int)) (g8 : (Int → Int)) (g10 : (Int → Int)) (g11 : (Int → Int)) (g12 : (Int → Int)) (g13 : (Int → Int)) (rec : Int → Int → Int → Int → Int → Int → Int → Int → (Int → Int) → (Int → Int) → (Int → Int) → (Int → Int) → (Int → Int) → (Int → Int) → Option (((Int × Int × Int × Int × Int × Int × Int × (Int → Int) × (Int → Int) × (Int → Int) × (Int → Int) × (Int → Int) × (Int → Int)) ⊕ (Int × Int × Int × Int × Int × Int × Int × Int × Int × Int × (Int → Int) × (Int → Int) × (Int → Int) × (Int → Int) × (Int → Int) × (Int → Int))))) (x7 : Int) (f3 : Int) (f4 : Int) (f5 : Int) (f6 : Int) (f11 : Int) (f12 : Int) (f14 : Int) (g0 : (Int → Int)) (g1 : (Int → Int)) (g2 : (Int → Int)) (g3 : (Int → Int)) (g9 : (Int → Int)) (g14 : (Int → Int)) : Option (((Int × Int × Int × Int × Int × Int × Int × (Int → Int) × (Int → Int) × (Int → Int) × (Int → Int) × (Int → Int) × (Int → Int)) ⊕ (Int × Int × Int × Int × Int × Int × Int × Int × Int × Int × (Int → Int) × (Int → Int) × (Int → Int) × (Int → Int) × (Int → Int) × (Int → Int)))) := if x5 < x7 then (some (.inl (f3, f4, f5, f6, f11, f12, f14, g0, g1, g2, g3, g9, g14))) else ((zf_Pilot_stepFirstLegs f2 f3 f4 f5 f6 f7 f8 f9 f10 f11 f12 f13 f14 f15 g0 g1 g2 g3 g4 g5 g6 g7 g8 g9 g10 g11).bind fun r4 => ((zf_Pilot_findFastest_l1 x4 x7 f2 r4.1 r4.2.1 f5 f6 r4.2.2.1 r4.2.2.2.1 r4.2.2.2.2.1 r4.2.2.2.2.2.1 r4.2.2.2.2.2.2.1 g2 g3 r4.2.2.2.2.2.2.2 g14 zi_fu 0).bind fun q10 => Sum.elim (fun e11 => ((zf_Pilot_turnOnward f5 f6 r4.2.2.1 g2 g12 g3 g13 g14).bind fun r12 => (rec (zi_w (x7 + 1)) r4.1 r4.2.1 r12.1 r12.2.1 r12.2.2.1 r4.2.2.2.1 r4.2.2.2.2.1 r4.2.2.2.2.2.1 r4.2.2.2.2.2.2.1 r12.2.2.2.1 r12.2.2.2.2.1 r4.2.2.2.2.2.2.2 r12.2.2.2.2.2))) (fun w13 => some (.inr w13)) q10))
def zf_Pilot_findFastest_l0 (x4 : Int) (x5 : Int) (f2 : Int) (f7 : Int) (f8 : Int) (f9 : Int) (f10 : Int) (f13 : Int) (f15 : Int) (g4 : (Int → Int)) (g5 : (Int → Int)) (g6 : (Int → Int)) (g7 : (Int → Int)) (g8 : (Int → Int)) (g10 : (Int → Int)) (g11 : (Int → Int)) (g12 : (Int → Int)) (g13 : (Int → Int)) : Nat → Int → Int → Int → Int → Int → Int → Int → Int → (Int → Int) → (Int → Int) → (Int → Int) → (Int → Int) → (Int → Int) → (Int → Int) → Option (((Int × Int × Int × Int × Int × Int × Int × (Int → Int) × (Int → Int) × (Int → Int) × (Int → Int) × (Int → Int) × (Int → Int)) ⊕ (Int × Int × Int × Int × Int × Int × Int × Int × Int × Int × (Int → Int) × (Int → Int) × (Int → Int) × (Int → Int) × (Int → Int) × (Int → Int))))
  | 0, _, _, _, _, _, _, _, _, _, _, _, _, _, _ => none
  | n + 1, x7, f3, f4, f5, f6, f11, f12, f14, g0, g1, g2, g3, g9, g14 => zf_Pilot_findFastest_l0_b x4 x5 f2 f7 f8 f9 f10 f13 f15 g4 g5 g6 g7 g8 g10 g11 g12 g13 (zf_Pilot_findFastest_l0 x4 x5 f2 f7 f8 f9 f10 f13 f15 g4 g5 g6 g7 g8 g10 g11 g12 g13 n) x7 f3 f4 f5 f6 f11 f12 f14 g0 g1 g2 g3 g9 g14
def zf_Pilot_findFastest (x3 : Int) (x4 : Int) (x5 : Int) (f2 : Int) (f3 : Int) (f4 : Int) (f5 : Int) (f6 : Int) (f7 : Int) (f8 : Int) (f9 : Int) (f10 : Int) (f11 : Int) (f12 : Int) (f13 : Int) (f14 : Int) (f15 : Int) (f16 : Int) (f17 : Int) (g0 : (Int → Int)) (g1 : (Int → Int)) (g2 : (Int → Int)) (g3 : (Int → Int)) (g4 : (Int → Int)) (g5 : (Int → Int)) (g6 : (Int → Int)) (g7 : (Int → Int)) (g8 : (Int → Int)) (g9 : (Int → Int)) (g10 : (Int → Int)) (g11 : (Int → Int)) (g12 : (Int → Int)) (g13 : (Int → Int)) (g14 : (Int → Int)) : Option (Int × Int × Int × Int × Int × Int × Int × Int × Int × Int × (Int → Int) × (Int → Int) × (Int → Int) × (Int → Int) × (Int → Int) × (Int → Int)) := if x3 = x4 then ((zf_X_lowestOf f2).bind fun r17 => (some (1, f3, f4, f5, f6, f11, f12, f14, 0, r17, g0, g1, g2, g3, g9, g14))) else ((zf_Arrays_fill_24 x3 g0).bind fun r2 => ((zf_Pilot_findFastest_l0 x4 x5 f2 f7 f8 f9 f10 f13 f15 g4 g5 g6 g7 g8 g10 g11 g12 g13 zi_fu 1 f3 f4 f5 f6 f11 f12 f14 r2 g1 g2 g3 g9 g14).bind fun q14 => Sum.elim (fun e15 => (some (0, e15.1, e15.2.1, e15.2.2.1, e15.2.2.2.1, e15.2.2.2.2.1, e15.2.2.2.2.2.1, e15.2.2.2.2.2.2.1, f16, f17, e15.2.2.2.2.2.2.2.1, e15.2.2.2.2.2.2.2.2.1, e15.2.2.2.2.2.2.2.2.2.1, e15.2.2.2.2.2.2.2.2.2.2.1, e15.2.2.2.2.2.2.2.2.2.2.2.1, e15.2.2.2.2.2.2.2.2.2.2.2.2))) (fun w16 => some w16) q14))
theorem zd167_0 : decode zxm167.2.1 0 = .ok (.aload_n 1, 1) := by decide +kernel
theorem zd167_1 : decode zxm167.2.1 1 = .ok (.getfield 75, 3) := by decide +kernel
theorem zd167_4 : decode zxm167.2.1 4 = .ok (.astore 6, 2) := by decide +kernel
theorem zd167_6 : decode zxm167.2.1 6 = .ok (.iload_n 3, 1) := by decide +kernel
theorem zd167_7 : decode zxm167.2.1 7 = .ok (.iload 4, 2) := by decide +kernel
theorem zd167_9 : decode zxm167.2.1 9 = .ok (.if_icmp .ne 22, 3) := by decide +kernel
theorem zd167_12 : decode zxm167.2.1 12 = .ok (.aload_n 0, 1) := by decide +kernel
theorem zd167_13 : decode zxm167.2.1 13 = .ok (.iconst 0, 1) := by decide +kernel
theorem zd167_14 : decode zxm167.2.1 14 = .ok (.putfield 11, 3) := by decide +kernel
theorem zd167_17 : decode zxm167.2.1 17 = .ok (.aload_n 0, 1) := by decide +kernel
theorem zd167_18 : decode zxm167.2.1 18 = .ok (.aload 6, 2) := by decide +kernel
theorem zd167_20 : decode zxm167.2.1 20 = .ok (.getfield 104, 3) := by decide +kernel
theorem zd167_23 : decode zxm167.2.1 23 = .ok (.invokestatic 107, 3) := by decide +kernel
theorem zd167_26 : decode zxm167.2.1 26 = .ok (.putfield 15, 3) := by decide +kernel
theorem zd167_29 : decode zxm167.2.1 29 = .ok (.iconst 1, 1) := by decide +kernel
theorem zd167_30 : decode zxm167.2.1 30 = .ok (.ireturn, 1) := by decide +kernel
theorem zd167_31 : decode zxm167.2.1 31 = .ok (.aload_n 0, 1) := by decide +kernel
theorem zd167_32 : decode zxm167.2.1 32 = .ok (.getfield 24, 3) := by decide +kernel
theorem zd167_35 : decode zxm167.2.1 35 = .ok (.iload_n 3, 1) := by decide +kernel
theorem zd167_36 : decode zxm167.2.1 36 = .ok (.invokestatic 110, 3) := by decide +kernel
theorem zd167_39 : decode zxm167.2.1 39 = .ok (.iconst 1, 1) := by decide +kernel
theorem zd167_40 : decode zxm167.2.1 40 = .ok (.istore 7, 2) := by decide +kernel
theorem zd167_42 : decode zxm167.2.1 42 = .ok (.iload 7, 2) := by decide +kernel
theorem zd167_44 : decode zxm167.2.1 44 = .ok (.iload 5, 2) := by decide +kernel
theorem zd167_46 : decode zxm167.2.1 46 = .ok (.if_icmp .gt 72, 3) := by decide +kernel
theorem zd167_49 : decode zxm167.2.1 49 = .ok (.aload_n 0, 1) := by decide +kernel
theorem zd167_50 : decode zxm167.2.1 50 = .ok (.aload_n 1, 1) := by decide +kernel
theorem zd167_51 : decode zxm167.2.1 51 = .ok (.aload_n 2, 1) := by decide +kernel
theorem zd167_52 : decode zxm167.2.1 52 = .ok (.invokevirtual 116, 3) := by decide +kernel
theorem zd167_55 : decode zxm167.2.1 55 = .ok (.iconst 0, 1) := by decide +kernel
theorem zd167_56 : decode zxm167.2.1 56 = .ok (.istore 8, 2) := by decide +kernel
theorem zd167_58 : decode zxm167.2.1 58 = .ok (.iload 8, 2) := by decide +kernel
theorem zd167_60 : decode zxm167.2.1 60 = .ok (.bipush 24, 2) := by decide +kernel
theorem zd167_62 : decode zxm167.2.1 62 = .ok (.if_icmp .ge 45, 3) := by decide +kernel
theorem zd167_65 : decode zxm167.2.1 65 = .ok (.aload 6, 2) := by decide +kernel
theorem zd167_67 : decode zxm167.2.1 67 = .ok (.iload 8, 2) := by decide +kernel
theorem zd167_69 : decode zxm167.2.1 69 = .ok (.invokevirtual 120, 3) := by decide +kernel
theorem zd167_72 : decode zxm167.2.1 72 = .ok (.ifCond .eq 29, 3) := by decide +kernel
theorem zd167_75 : decode zxm167.2.1 75 = .ok (.aload_n 0, 1) := by decide +kernel
theorem zd167_76 : decode zxm167.2.1 76 = .ok (.getfield 24, 3) := by decide +kernel
theorem zd167_79 : decode zxm167.2.1 79 = .ok (.iload 8, 2) := by decide +kernel
theorem zd167_81 : decode zxm167.2.1 81 = .ok (.iaload, 1) := by decide +kernel
theorem zd167_82 : decode zxm167.2.1 82 = .ok (.iload 4, 2) := by decide +kernel
theorem zd167_84 : decode zxm167.2.1 84 = .ok (.if_icmp .ne 17, 3) := by decide +kernel
theorem zd167_87 : decode zxm167.2.1 87 = .ok (.aload_n 0, 1) := by decide +kernel
theorem zd167_88 : decode zxm167.2.1 88 = .ok (.iload 7, 2) := by decide +kernel
theorem zd167_90 : decode zxm167.2.1 90 = .ok (.putfield 11, 3) := by decide +kernel
theorem zd167_93 : decode zxm167.2.1 93 = .ok (.aload_n 0, 1) := by decide +kernel
theorem zd167_94 : decode zxm167.2.1 94 = .ok (.iload 8, 2) := by decide +kernel
theorem zd167_96 : decode zxm167.2.1 96 = .ok (.putfield 15, 3) := by decide +kernel
theorem zd167_99 : decode zxm167.2.1 99 = .ok (.iconst 1, 1) := by decide +kernel
theorem zd167_100 : decode zxm167.2.1 100 = .ok (.ireturn, 1) := by decide +kernel
theorem zd167_101 : decode zxm167.2.1 101 = .ok (.iinc 8 1, 3) := by decide +kernel
theorem zd167_104 : decode zxm167.2.1 104 = .ok (.goto (-46), 3) := by decide +kernel
theorem zd167_107 : decode zxm167.2.1 107 = .ok (.aload_n 0, 1) := by decide +kernel
theorem zd167_108 : decode zxm167.2.1 108 = .ok (.aload_n 1, 1) := by decide +kernel
theorem zd167_109 : decode zxm167.2.1 109 = .ok (.invokevirtual 123, 3) := by decide +kernel
theorem zd167_112 : decode zxm167.2.1 112 = .ok (.iinc 7 1, 3) := by decide +kernel
theorem zd167_115 : decode zxm167.2.1 115 = .ok (.goto (-73), 3) := by decide +kernel
theorem zd167_118 : decode zxm167.2.1 118 = .ok (.iconst 0, 1) := by decide +kernel
theorem zd167_119 : decode zxm167.2.1 119 = .ok (.ireturn, 1) := by decide +kernel
theorem zt_Pilot_findFastest {x3 : Int} {x4 : Int} {x5 : Int} {f2 : Int} {f3 : Int} {f4 : Int} {f5 : Int} {f6 : Int} {f7 : Int} {f8 : Int} {f9 : Int} {f10 : Int} {f11 : Int} {f12 : Int} {f13 : Int} {f14 : Int} {f15 : Int} {f16 : Int} {f17 : Int} {g0 : (Int → Int)} {g1 : (Int → Int)} {g2 : (Int → Int)} {g3 : (Int → Int)} {g4 : (Int → Int)} {g5 : (Int → Int)} {g6 : (Int → Int)} {g7 : (Int → Int)} {g8 : (Int → Int)} {g9 : (Int → Int)} {g10 : (Int → Int)} {g11 : (Int → Int)} {g12 : (Int → Int)} {g13 : (Int → Int)} {g14 : (Int → Int)} {o : Int × Int × Int × Int × Int × Int × Int × Int × Int × Int × (Int → Int) × (Int → Int) × (Int → Int) × (Int → Int) × (Int → Int) × (Int → Int)} (h : zf_Pilot_findFastest x3 x4 x5 f2 f3 f4 f5 f6 f7 f8 f9 f10 f11 f12 f13 f14 f15 f16 f17 g0 g1 g2 g3 g4 g5 g6 g7 g8 g9 g10 g11 g12 g13 g14 = some o) : zv_Fn z_TB z_cl z_KX zy_Pilot_findFastest zxm167 (6, 360) [.inr 0, .inr 1, .inr 2, .inl x3, .inl x4, .inl x5] [.inr 3, .inr 5, .inl f2, .inl f3, .inl f4, .inl f5, .inl f6, .inl f7, .inl f8, .inl f9, .inl f10, .inl f11, .inl f12, .inl f13, .inl f14, .inl f15, .inl f16, .inl f17] [g0, g1, g2, g3, g4, g5, g6, g7, g8, g9, g10, g11, g12, g13, g14] (some o.1) [.inr 3, .inr 5, .inl f2, .inl o.2.1, .inl o.2.2.1, .inl o.2.2.2.1, .inl o.2.2.2.2.1, .inl f7, .inl f8, .inl f9, .inl f10, .inl o.2.2.2.2.2.1, .inl o.2.2.2.2.2.2.1, .inl f13, .inl o.2.2.2.2.2.2.2.1, .inl f15, .inl o.2.2.2.2.2.2.2.2.1, .inl o.2.2.2.2.2.2.2.2.2.1] [o.2.2.2.2.2.2.2.2.2.2.1, o.2.2.2.2.2.2.2.2.2.2.2.1, o.2.2.2.2.2.2.2.2.2.2.2.2.1, o.2.2.2.2.2.2.2.2.2.2.2.2.2.1, g4, g5, g6, g7, g8, o.2.2.2.2.2.2.2.2.2.2.2.2.2.2.1, g10, g11, g12, g13, o.2.2.2.2.2.2.2.2.2.2.2.2.2.2.2] := zv_meth (K := (z_KF6, z_KC6, z_KL6, z_KT6, [], [], [], none)) (FT := z_FT) (MT := z_MT) (n := 6) zxp167 (z_ks6 _ (fun _ h => List.mem_cons_of_mem _ h) _ _ _ _ (fun j r h _ => by cases h)) (fun _ _ => zs_KX_p) zyw_Pilot_findFastest (fun va F G h => by obtain ⟨rfl, _⟩ := h; rfl) (fun va F G h => by obtain ⟨rfl, _⟩ := h; rfl) rfl fun good va F G hB hret hvret hP => by
  obtain ⟨rfl, rfl, rfl⟩ := hP
  have l1 : ∀ (n : Nat) (x4 : Int) (x5 : Int) (x7 : Int) (x8 : Int) (f3 : Int) (f4 : Int) (f5 : Int) (f6 : Int) (f11 : Int) (f12 : Int) (f14 : Int) (f16 : Int) (f17 : Int) (g0 : (Int → Int)) (g1 : (Int → Int)) (g2 : (Int → Int)) (g3 : (Int → Int)) (g9 : (Int → Int)) (g14 : (Int → Int)) (q : ((Unit) ⊕ (Int × Int × Int × Int × Int × Int × Int × Int × Int × Int × (Int → Int) × (Int → Int) × (Int → Int) × (Int → Int) × (Int → Int) × (Int → Int)))), zf_Pilot_findFastest_l1 x4 x7 f2 f3 f4 f5 f6 f11 f12 f14 g0 g1 g2 g3 g9 g14 n x8 = some q → (Sum.elim (fun e : Unit => good 107 [.inr 0, .inr 1, .inr 2, .inr 1000, .inl x4, .inl x5, .inr 3, .inl x7, .inr 1000] [] [.inr 3, .inr 5, .inl f2, .inl f3, .inl f4, .inl f5, .inl f6, .inl f7, .inl f8, .inl f9, .inl f10, .inl f11, .inl f12, .inl f13, .inl f14, .inl f15, .inl f16, .inl f17] [g0, g1, g2, g3, g4, g5, g6, g7, g8, g9, g10, g11, g12, g13, g14]) (fun w : Int × Int × Int × Int × Int × Int × Int × Int × Int × Int × (Int → Int) × (Int → Int) × (Int → Int) × (Int → Int) × (Int → Int) × (Int → Int) => w = o) q) → good 58 [.inr 0, .inr 1, .inr 2, .inr 1000, .inl x4, .inl x5, .inr 3, .inl x7, .inl x8] [] [.inr 3, .inr 5, .inl f2, .inl f3, .inl f4, .inl f5, .inl f6, .inl f7, .inl f8, .inl f9, .inl f10, .inl f11, .inl f12, .inl f13, .inl f14, .inl f15, .inl f16, .inl f17] [g0, g1, g2, g3, g4, g5, g6, g7, g8, g9, g10, g11, g12, g13, g14] := by
    intro n
    induction n with
    | zero => intro x4 x5 x7 x8 f3 f4 f5 f6 f11 f12 f14 f16 f17 g0 g1 g2 g3 g9 g14 q h; exact absurd (show none = some q from h) (fun h => by cases h)
    | succ n ih =>
      intro x4 x5 x7 x8 f3 f4 f5 f6 f11 f12 f14 f16 f17 g0 g1 g2 g3 g9 g14 q h hK
      replace h : zf_Pilot_findFastest_l1_b x4 x7 f2 f3 f4 f5 f6 f11 f12 f14 g0 g1 g2 g3 g9 g14 (zf_Pilot_findFastest_l1 x4 x7 f2 f3 f4 f5 f6 f11 f12 f14 g0 g1 g2 g3 g9 g14 n) x8 = some q := h
      unfold zf_Pilot_findFastest_l1_b at h
      refine zv_ild hB zd167_58 rfl rfl ?_
      refine zv_con hB zd167_60 rfl ?_
      refine zv_cge hB zd167_62 rfl (fun hc5 => ?_) (fun hc5 => ?_)
      · rw [if_neg (Int.not_lt.mpr hc5)] at h
        have hq := Option.some.inj h
        subst hq
        refine zv_wk hB (L' := [.inr 0, .inr 1, .inr 2, .inr 1000, .inl x4, .inl x5, .inr 3, .inl x7, .inr 1000]) (F' := [.inr 3, .inr 5, .inl f2, .inl f3, .inl f4, .inl f5, .inl f6, .inl f7, .inl f8, .inl f9, .inl f10, .inl f11, .inl f12, .inl f13, .inl f14, .inl f15, .inl f16, .inl f17]) ⟨fun _ => rfl, fun _ => rfl, fun _ => rfl, fun (h : zv_is (.inr 1000)) => (Nat.lt_irrefl 1000 h).elim, fun _ => rfl, fun _ => rfl, fun _ => rfl, fun _ => rfl, fun (h : zv_is (.inr 1000)) => (Nat.lt_irrefl 1000 h).elim, trivial⟩ ⟨fun _ => rfl, fun _ => rfl, fun _ => rfl, fun _ => rfl, fun _ => rfl, fun _ => rfl, fun _ => rfl, fun _ => rfl, fun _ => rfl, fun _ => rfl, fun _ => rfl, fun _ => rfl, fun _ => rfl, fun _ => rfl, fun _ => rfl, fun _ => rfl, fun _ => rfl, fun _ => rfl, trivial⟩ ?_
        exact hK
      · rw [if_pos hc5] at h
        refine zv_ald hB zd167_65 rfl rfl rfl ?_
        refine zv_ild hB zd167_67 rfl rfl ?_
        obtain ⟨r6, hr6, h⟩ := zi_bind h
        refine zv_cv hB (zv_emq (va2 := [.inr 3, .inl x8]) (F := [.inr 3, .inr 5, .inl f2, .inl f3, .inl f4, .inl f5, .inl f6, .inl f7, .inl f8, .inl f9, .inl f10, .inl f11, .inl f12, .inl f13, .inl f14, .inl f15, .inl f16, .inl f17]) (F' := [.inr 3, .inr 5, .inl f2, .inl f3, .inl f4, .inl f5, .inl f6, .inl f7, .inl f8, .inl f9, .inl f10, .inl f11, .inl f12, .inl f13, .inl f14, .inl f15, .inl f16, .inl f17]) (G := [g0, g1, g2, g3, g4, g5, g6, g7, g8, g9, g10, g11, g12, g13, g14]) (G' := [g0, g1, g2, g3, g4, g5, g6, g7, g8, g9, g10, g11, g12, g13, g14]) (ρ := [3]) (φ := [2]) (ψ := []) [none, none, some 0, none, none, none, none, none, none, none, none, none, none, none, none, none, none, none] [none, none, none, none, none, none, none, none, none, none, none, none, none, none, none] zyw_Sky_hasStar zyw_Pilot_findFastest zye_Pilot_findFastest (by decide +kernel) (zt_Sky_hasStar hr6) ⟨⟨_, rfl, fun _ => rfl⟩, trivial⟩ trivial rfl rfl rfl rfl rfl rfl rfl) zd167_69 zxt18 rfl (by decide) (by decide) rfl ?_
        refine zv_zeq hB zd167_72 rfl (fun hc7 => ?_) (fun hc7 => ?_)
        · rw [if_pos hc7] at h
          refine zv_iincw hB zd167_101 rfl rfl ?_
          refine zv_goto hB zd167_104 rfl ?_
          exact ih _ _ _ _ _ _ _ _ _ _ _ _ _ _ _ _ _ _ _ q h hK
        · rw [if_neg hc7] at h
          refine zv_ald hB zd167_75 rfl rfl rfl ?_
          refine zv_getr hB zd167_76 rfl ?_
          refine zv_ild hB zd167_79 rfl rfl ?_
          obtain ⟨c8, h⟩ := zi_if h
          refine zv_iald hB zd167_81 rfl rfl (zi_ix_ok c8).1 (zi_ix_ok c8).2 (fun _ _ => ?_)
          refine zv_ild hB zd167_82 rfl rfl ?_
          refine zv_cne hB zd167_84 rfl (fun hc9 => ?_) (fun hc9 => ?_)
          · rw [if_neg hc9] at h
            refine zv_iincw hB zd167_101 rfl rfl ?_
            refine zv_goto hB zd167_104 rfl ?_
            exact ih _ _ _ _ _ _ _ _ _ _ _ _ _ _ _ _ _ _ _ q h hK
          · rw [if_pos hc9] at h
            refine zv_ald hB zd167_87 rfl rfl rfl ?_
            refine zv_ild hB zd167_88 rfl rfl ?_
            refine zv_putf hB zd167_90 rfl rfl (fun h => by cases h) rfl ?_
            refine zv_ald hB zd167_93 rfl rfl rfl ?_
            refine zv_ild hB zd167_94 rfl rfl ?_
            refine zv_putf hB zd167_96 rfl rfl (fun h => by cases h) rfl ?_
            refine zv_con hB zd167_99 rfl ?_
            have hw : (1, f3, f4, f5, f6, f11, f12, f14, x7, x8, g0, g1, g2, g3, g9, g14) = o := zi_rk (Option.some.inj h) hK
            subst hw
            exact hret _ _ _ _ _ zd167_100 (by constructor <;> decide) ⟨rfl, rfl, rfl⟩
  have l0 : ∀ (n : Nat) (x4 : Int) (x5 : Int) (x7 : Int) (f3 : Int) (f4 : Int) (f5 : Int) (f6 : Int) (f11 : Int) (f12 : Int) (f14 : Int) (f16 : Int) (f17 : Int) (g0 : (Int → Int)) (g1 : (Int → Int)) (g2 : (Int → Int)) (g3 : (Int → Int)) (g9 : (Int → Int)) (g14 : (Int → Int)) (q : ((Int × Int × Int × Int × Int × Int × Int × (Int → Int) × (Int → Int) × (Int → Int) × (Int → Int) × (Int → Int) × (Int → Int)) ⊕ (Int × Int × Int × Int × Int × Int × Int × Int × Int × Int × (Int → Int) × (Int → Int) × (Int → Int) × (Int → Int) × (Int → Int) × (Int → Int)))), zf_Pilot_findFastest_l0 x4 x5 f2 f7 f8 f9 f10 f13 f15 g4 g5 g6 g7 g8 g10 g11 g12 g13 n x7 f3 f4 f5 f6 f11 f12 f14 g0 g1 g2 g3 g9 g14 = some q → (Sum.elim (fun e : Int × Int × Int × Int × Int × Int × Int × (Int → Int) × (Int → Int) × (Int → Int) × (Int → Int) × (Int → Int) × (Int → Int) => good 118 [.inr 1000, .inr 1000, .inr 1000, .inr 1000, .inr 1000, .inr 1000, .inr 1000, .inr 1000, .inr 1000] [] [.inr 3, .inr 5, .inl f2, .inl e.1, .inl e.2.1, .inl e.2.2.1, .inl e.2.2.2.1, .inl f7, .inl f8, .inl f9, .inl f10, .inl e.2.2.2.2.1, .inl e.2.2.2.2.2.1, .inl f13, .inl e.2.2.2.2.2.2.1, .inl f15, .inl f16, .inl f17] [e.2.2.2.2.2.2.2.1, e.2.2.2.2.2.2.2.2.1, e.2.2.2.2.2.2.2.2.2.1, e.2.2.2.2.2.2.2.2.2.2.1, g4, g5, g6, g7, g8, e.2.2.2.2.2.2.2.2.2.2.2.1, g10, g11, g12, g13, e.2.2.2.2.2.2.2.2.2.2.2.2]) (fun w : Int × Int × Int × Int × Int × Int × Int × Int × Int × Int × (Int → Int) × (Int → Int) × (Int → Int) × (Int → Int) × (Int → Int) × (Int → Int) => w = o) q) → good 42 [.inr 0, .inr 1, .inr 2, .inr 1000, .inl x4, .inl x5, .inr 3, .inl x7, .inr 1000] [] [.inr 3, .inr 5, .inl f2, .inl f3, .inl f4, .inl f5, .inl f6, .inl f7, .inl f8, .inl f9, .inl f10, .inl f11, .inl f12, .inl f13, .inl f14, .inl f15, .inl f16, .inl f17] [g0, g1, g2, g3, g4, g5, g6, g7, g8, g9, g10, g11, g12, g13, g14] := by
    intro n
    induction n with
    | zero => intro x4 x5 x7 f3 f4 f5 f6 f11 f12 f14 f16 f17 g0 g1 g2 g3 g9 g14 q h; exact absurd (show none = some q from h) (fun h => by cases h)
    | succ n ih =>
      intro x4 x5 x7 f3 f4 f5 f6 f11 f12 f14 f16 f17 g0 g1 g2 g3 g9 g14 q h hK
      replace h : zf_Pilot_findFastest_l0_b x4 x5 f2 f7 f8 f9 f10 f13 f15 g4 g5 g6 g7 g8 g10 g11 g12 g13 (zf_Pilot_findFastest_l0 x4 x5 f2 f7 f8 f9 f10 f13 f15 g4 g5 g6 g7 g8 g10 g11 g12 g13 n) x7 f3 f4 f5 f6 f11 f12 f14 g0 g1 g2 g3 g9 g14 = some q := h
      unfold zf_Pilot_findFastest_l0_b at h
      refine zv_ild hB zd167_42 rfl rfl ?_
      refine zv_ild hB zd167_44 rfl rfl ?_
      refine zv_cgt hB zd167_46 rfl (fun hc3 => ?_) (fun hc3 => ?_)
      · rw [if_pos hc3] at h
        have hq := Option.some.inj h
        subst hq
        refine zv_wk hB (L' := [.inr 1000, .inr 1000, .inr 1000, .inr 1000, .inr 1000, .inr 1000, .inr 1000, .inr 1000, .inr 1000]) (F' := [.inr 3, .inr 5, .inl f2, .inl f3, .inl f4, .inl f5, .inl f6, .inl f7, .inl f8, .inl f9, .inl f10, .inl f11, .inl f12, .inl f13, .inl f14, .inl f15, .inl f16, .inl f17]) ⟨fun (h : zv_is (.inr 1000)) => (Nat.lt_irrefl 1000 h).elim, fun (h : zv_is (.inr 1000)) => (Nat.lt_irrefl 1000 h).elim, fun (h : zv_is (.inr 1000)) => (Nat.lt_irrefl 1000 h).elim, fun (h : zv_is (.inr 1000)) => (Nat.lt_irrefl 1000 h).elim, fun (h : zv_is (.inr 1000)) => (Nat.lt_irrefl 1000 h).elim, fun (h : zv_is (.inr 1000)) => (Nat.lt_irrefl 1000 h).elim, fun (h : zv_is (.inr 1000)) => (Nat.lt_irrefl 1000 h).elim, fun (h : zv_is (.inr 1000)) => (Nat.lt_irrefl 1000 h).elim, fun (h : zv_is (.inr 1000)) => (Nat.lt_irrefl 1000 h).elim, trivial⟩ ⟨fun _ => rfl, fun _ => rfl, fun _ => rfl, fun _ => rfl, fun _ => rfl, fun _ => rfl, fun _ => rfl, fun _ => rfl, fun _ => rfl, fun _ => rfl, fun _ => rfl, fun _ => rfl, fun _ => rfl, fun _ => rfl, fun _ => rfl, fun _ => rfl, fun _ => rfl, fun _ => rfl, trivial⟩ ?_
        exact hK
      · rw [if_neg (Int.not_lt.mpr hc3)] at h
        refine zv_ald hB zd167_49 rfl rfl rfl ?_
        refine zv_ald hB zd167_50 rfl rfl rfl ?_
        refine zv_ald hB zd167_51 rfl rfl rfl ?_
        obtain ⟨r4, hr4, h⟩ := zi_bind h
        refine zv_cv hB (zv_emq (va2 := [.inr 0, .inr 1, .inr 2]) (F := [.inr 3, .inr 5, .inl f2, .inl f3, .inl f4, .inl f5, .inl f6, .inl f7, .inl f8, .inl f9, .inl f10, .inl f11, .inl f12, .inl f13, .inl f14, .inl f15, .inl f16, .inl f17]) (F' := [.inr 3, .inr 5, .inl f2, .inl r4.1, .inl r4.2.1, .inl f5, .inl f6, .inl f7, .inl f8, .inl f9, .inl f10, .inl r4.2.2.1, .inl r4.2.2.2.1, .inl f13, .inl r4.2.2.2.2.1, .inl f15, .inl f16, .inl f17]) (G := [g0, g1, g2, g3, g4, g5, g6, g7, g8, g9, g10, g11, g12, g13, g14]) (G' := [r4.2.2.2.2.2.1, r4.2.2.2.2.2.2.1, g2, g3, g4, g5, g6, g7, g8, r4.2.2.2.2.2.2.2, g10, g11, g12, g13, g14]) (ρ := [0, 1, 2, 3, 4, 5, 6, 7, 8, 9, 10, 11, 12, 13, 14, 15, 16]) (φ := [0, 2, 1, 3, 4, 5, 6, 7, 8, 9, 10, 11, 12, 13, 14, 15]) (ψ := [0, 1, 2, 3, 4, 5, 6, 7, 8, 9, 10, 11]) [some 0, some 2, some 1, some 3, some 4, some 5, some 6, some 7, some 8, some 9, some 10, some 11, some 12, some 13, some 14, some 15, none, none] [some 0, some 1, some 2, some 3, some 4, some 5, some 6, some 7, some 8, some 9, some 10, some 11, none, none, none] zyw_Pilot_stepFirstLegs zyw_Pilot_findFastest zye_Pilot_findFastest (by decide +kernel) (zt_Pilot_stepFirstLegs hr4) ⟨⟨_, rfl, fun _ => rfl⟩, ⟨_, rfl, fun _ => rfl⟩, ⟨_, rfl, fun _ => rfl⟩, ⟨_, rfl, fun _ => rfl⟩, ⟨_, rfl, fun _ => rfl⟩, ⟨_, rfl, fun _ => rfl⟩, ⟨_, rfl, fun _ => rfl⟩, ⟨_, rfl, fun _ => rfl⟩, ⟨_, rfl, fun _ => rfl⟩, ⟨_, rfl, fun _ => rfl⟩, ⟨_, rfl, fun _ => rfl⟩, ⟨_, rfl, fun _ => rfl⟩, ⟨_, rfl, fun _ => rfl⟩, ⟨_, rfl, fun _ => rfl⟩, ⟨_, rfl, fun _ => rfl⟩, ⟨_, rfl, fun _ => rfl⟩, trivial⟩ ⟨rfl, rfl, rfl, rfl, rfl, rfl, rfl, rfl, rfl, rfl, rfl, rfl, trivial⟩ rfl rfl rfl rfl rfl rfl rfl) zd167_52 zxt168 rfl (by decide) (by decide) rfl ?_
        refine zv_con hB zd167_55 rfl ?_
        refine zv_ist hB zd167_56 rfl rfl rfl ?_
        obtain ⟨q10, hq10, h⟩ := zi_bind h
        refine l1 _ _ _ _ _ _ _ _ _ _ _ _ _ _ _ _ _ _ _ _ q10 hq10 ?_
        rcases q10 with e11 | w13
        · replace h := zi_sl h
          show good 107 [.inr 0, .inr 1, .inr 2, .inr 1000, .inl x4, .inl x5, .inr 3, .inl x7, .inr 1000] [] [.inr 3, .inr 5, .inl f2, .inl r4.1, .inl r4.2.1, .inl f5, .inl f6, .inl f7, .inl f8, .inl f9, .inl f10, .inl r4.2.2.1, .inl r4.2.2.2.1, .inl f13, .inl r4.2.2.2.2.1, .inl f15, .inl f16, .inl f17] [r4.2.2.2.2.2.1, r4.2.2.2.2.2.2.1, g2, g3, g4, g5, g6, g7, g8, r4.2.2.2.2.2.2.2, g10, g11, g12, g13, g14]
          refine zv_ald hB zd167_107 rfl rfl rfl ?_
          refine zv_ald hB zd167_108 rfl rfl rfl ?_
          obtain ⟨r12, hr12, h⟩ := zi_bind h
          refine zv_cv hB (zv_emq (va2 := [.inr 0, .inr 1]) (F := [.inr 3, .inr 5, .inl f2, .inl r4.1, .inl r4.2.1, .inl f5, .inl f6, .inl f7, .inl f8, .inl f9, .inl f10, .inl r4.2.2.1, .inl r4.2.2.2.1, .inl f13, .inl r4.2.2.2.2.1, .inl f15, .inl f16, .inl f17]) (F' := [.inr 3, .inr 5, .inl f2, .inl r4.1, .inl r4.2.1, .inl r12.1, .inl r12.2.1, .inl f7, .inl f8, .inl f9, .inl f10, .inl r12.2.2.1, .inl r4.2.2.2.1, .inl f13, .inl r4.2.2.2.2.1, .inl f15, .inl f16, .inl f17]) (G := [r4.2.2.2.2.2.1, r4.2.2.2.2.2.2.1, g2, g3, g4, g5, g6, g7, g8, r4.2.2.2.2.2.2.2, g10, g11, g12, g13, g14]) (G' := [r4.2.2.2.2.2.1, r4.2.2.2.2.2.2.1, r12.2.2.2.1, r12.2.2.2.2.1, g4, g5, g6, g7, g8, r4.2.2.2.2.2.2.2, g10, g11, g12, g13, r12.2.2.2.2.2]) (ρ := [0, 1, 3, 7, 17, 8, 18, 5, 19]) (φ := [0, 5, 6, 1, 11]) (ψ := [2, 12, 3, 13, 14]) [some 0, some 3, none, none, none, some 1, some 2, none, none, none, none, some 4, none, none, none, none, none, none] [none, none, some 0, some 2, none, none, none, none, none, none, none, none, some 1, some 3, some 4] zyw_Pilot_turnOnward zyw_Pilot_findFastest zye_Pilot_findFastest (by decide +kernel) (zt_Pilot_turnOnward hr12) ⟨⟨_, rfl, fun _ => rfl⟩, ⟨_, rfl, fun _ => rfl⟩, ⟨_, rfl, fun _ => rfl⟩, ⟨_, rfl, fun _ => rfl⟩, ⟨_, rfl, fun _ => rfl⟩, trivial⟩ ⟨rfl, rfl, rfl, rfl, rfl, trivial⟩ rfl rfl rfl rfl rfl rfl rfl) zd167_109 zxt169 rfl (by decide) (by decide) rfl ?_
          refine zv_iincw hB zd167_112 rfl rfl ?_
          refine zv_goto hB zd167_115 rfl ?_
          exact ih _ _ _ _ _ _ _ _ _ _ _ _ _ _ _ _ _ _ q h hK
        · exact zi_rk (Option.some.inj h) hK
  unfold zf_Pilot_findFastest at h
  refine zv_ald hB zd167_0 rfl rfl rfl ?_
  refine zv_getq hB zd167_1 rfl rfl rfl ?_
  refine zv_ast hB zd167_4 rfl rfl rfl rfl ?_
  refine zv_ild hB zd167_6 rfl rfl ?_
  refine zv_ild hB zd167_7 rfl rfl ?_
  refine zv_cne hB zd167_9 rfl (fun hc1 => ?_) (fun hc1 => ?_)
  · rw [if_neg hc1] at h
    refine zv_ald hB zd167_31 rfl rfl rfl ?_
    refine zv_getr hB zd167_32 rfl ?_
    refine zv_ild hB zd167_35 rfl rfl ?_
    obtain ⟨r2, hr2, h⟩ := zi_bind h
    refine zv_cs hB (zv_emq (va2 := [.inr 4, .inl x3]) (F := [.inr 3, .inr 5, .inl f2, .inl f3, .inl f4, .inl f5, .inl f6, .inl f7, .inl f8, .inl f9, .inl f10, .inl f11, .inl f12, .inl f13, .inl f14, .inl f15, .inl f16, .inl f17]) (F' := [.inr 3, .inr 5, .inl f2, .inl f3, .inl f4, .inl f5, .inl f6, .inl f7, .inl f8, .inl f9, .inl f10, .inl f11, .inl f12, .inl f13, .inl f14, .inl f15, .inl f16, .inl f17]) (G := [g0, g1, g2, g3, g4, g5, g6, g7, g8, g9, g10, g11, g12, g13, g14]) (G' := [r2, g1, g2, g3, g4, g5, g6, g7, g8, g9, g10, g11, g12, g13, g14]) (ρ := [4]) (φ := []) (ψ := [0]) [none, none, none, none, none, none, none, none, none, none, none, none, none, none, none, none, none, none] [some 0, none, none, none, none, none, none, none, none, none, none, none, none, none, none] zyw_Arrays_fill_24 zyw_Pilot_findFastest zye_Pilot_findFastest (by decide +kernel) (zt_Arrays_fill_24 hr2) trivial ⟨rfl, trivial⟩ rfl rfl rfl rfl rfl rfl rfl) zd167_36 zxt78 rfl (by decide) (by decide) rfl ?_
    refine zv_con hB zd167_39 rfl ?_
    refine zv_ist hB zd167_40 rfl rfl rfl ?_
    obtain ⟨q14, hq14, h⟩ := zi_bind h
    refine zv_wk hB (L' := [.inr 0, .inr 1, .inr 2, .inr 1000, .inl x4, .inl x5, .inr 3, .inl 1, .inr 1000]) (F' := [.inr 3, .inr 5, .inl f2, .inl f3, .inl f4, .inl f5, .inl f6, .inl f7, .inl f8, .inl f9, .inl f10, .inl f11, .inl f12, .inl f13, .inl f14, .inl f15, .inl f16, .inl f17]) ⟨fun _ => rfl, fun _ => rfl, fun _ => rfl, fun (h : zv_is (.inr 1000)) => (Nat.lt_irrefl 1000 h).elim, fun _ => rfl, fun _ => rfl, fun _ => rfl, fun _ => rfl, fun (h : zv_is (.inr 1000)) => (Nat.lt_irrefl 1000 h).elim, trivial⟩ ⟨fun _ => rfl, fun _ => rfl, fun _ => rfl, fun _ => rfl, fun _ => rfl, fun _ => rfl, fun _ => rfl, fun _ => rfl, fun _ => rfl, fun _ => rfl, fun _ => rfl, fun _ => rfl, fun _ => rfl, fun _ => rfl, fun _ => rfl, fun _ => rfl, fun _ => rfl, fun _ => rfl, trivial⟩ ?_
    refine l0 _ _ _ _ _ _ _ _ _ _ _ _ _ _ _ _ _ _ _ q14 hq14 ?_
    rcases q14 with e15 | w16
    · replace h := zi_sl h
      show good 118 [.inr 1000, .inr 1000, .inr 1000, .inr 1000, .inr 1000, .inr 1000, .inr 1000, .inr 1000, .inr 1000] [] [.inr 3, .inr 5, .inl f2, .inl e15.1, .inl e15.2.1, .inl e15.2.2.1, .inl e15.2.2.2.1, .inl f7, .inl f8, .inl f9, .inl f10, .inl e15.2.2.2.2.1, .inl e15.2.2.2.2.2.1, .inl f13, .inl e15.2.2.2.2.2.2.1, .inl f15, .inl f16, .inl f17] [e15.2.2.2.2.2.2.2.1, e15.2.2.2.2.2.2.2.2.1, e15.2.2.2.2.2.2.2.2.2.1, e15.2.2.2.2.2.2.2.2.2.2.1, g4, g5, g6, g7, g8, e15.2.2.2.2.2.2.2.2.2.2.2.1, g10, g11, g12, g13, e15.2.2.2.2.2.2.2.2.2.2.2.2]
      refine zv_con hB zd167_118 rfl ?_
      have hw := Option.some.inj h
      subst hw
      exact hret _ _ _ _ _ zd167_119 (by constructor <;> decide) ⟨rfl, rfl, rfl⟩
    · exact Option.some.inj h
  · rw [if_pos hc1] at h
    refine zv_ald hB zd167_12 rfl rfl rfl ?_
    refine zv_con hB zd167_13 rfl ?_
    refine zv_putf hB zd167_14 rfl rfl (fun h => by cases h) rfl ?_
    refine zv_ald hB zd167_17 rfl rfl rfl ?_
    refine zv_ald hB zd167_18 rfl rfl rfl ?_
    refine zv_getf hB zd167_20 rfl rfl (fun _ _ => ?_)
    obtain ⟨r17, hr17, h⟩ := zi_bind h
    refine zv_cs hB (zv_emq (va2 := [.inl f2]) (F := [.inr 3, .inr 5, .inl f2, .inl f3, .inl f4, .inl f5, .inl f6, .inl f7, .inl f8, .inl f9, .inl f10, .inl f11, .inl f12, .inl f13, .inl f14, .inl f15, .inl 0, .inl f17]) (F' := [.inr 3, .inr 5, .inl f2, .inl f3, .inl f4, .inl f5, .inl f6, .inl f7, .inl f8, .inl f9, .inl f10, .inl f11, .inl f12, .inl f13, .inl f14, .inl f15, .inl 0, .inl f17]) (G := [g0, g1, g2, g3, g4, g5, g6, g7, g8, g9, g10, g11, g12, g13, g14]) (G' := [g0, g1, g2, g3, g4, g5, g6, g7, g8, g9, g10, g11, g12, g13, g14]) (ρ := []) (φ := []) (ψ := []) [none, none, none, none, none, none, none, none, none, none, none, none, none, none, none, none, none, none] [none, none, none, none, none, none, none, none, none, none, none, none, none, none, none] zyw_X_lowestOf zyw_Pilot_findFastest zye_Pilot_findFastest (by decide +kernel) (zt_X_lowestOf hr17) trivial trivial rfl rfl rfl rfl rfl rfl rfl) zd167_23 zxt105 rfl (by decide) (by decide) rfl ?_
    refine zv_putf hB zd167_26 rfl rfl (fun h => by cases h) rfl ?_
    refine zv_con hB zd167_29 rfl ?_
    have hw := Option.some.inj h
    subst hw
    exact hret _ _ _ _ _ zd167_30 (by constructor <;> decide) ⟨rfl, rfl, rfl⟩
/-! X_fastest (IIIII)I -/
-- names: 0 StarTales('arg', 0), 1 Sea(0, 0, 3), 2 Sky(0, 0, 0), 3 Sky(0, 0, 2), 4 (0, 24)(2, 1, 1), 5 (0, 24)(3, 1, 1), 6 (0, 24)(2, 1, 2), 7 (0, 24)(3, 1, 2), 8 (0, 24)(2, 1, 3), 9 (0, 24)(3, 1, 3), 10 (0, 24)(2, 1, 4), 11 (0, 24)(3, 1, 4), 12 (0, 24)(2, 1, 5), 13 (0, 24)(3, 1, 5), 14 View(0, 0, 12), 15 Law(0, 0, 7), 16 (0, 24)(14, 7, 8), 17 Pilot(0, 0, 15), 18 (0, 6)(1, 2, 2), 19 (0, 24)(17, 9, 4), 20 (0, 13)(15, 4, 12), 21 (0, 14)(15, 4, 3), 22 (0, 14)(15, 4, 5), 23 (0, 14)(15, 4, 6), 24 (0, 200)(15, 4, 0), 25 (0, 40)(15, 4, 13), 26 (0, 200)(15, 4, 1), 27 (0, 12)(1, 2, 0)
-- fields: f0 = 1.shipsTold_, f1 = 2.told_, f2 = 3.told_, f3 = 2.hour_, f4 = 3.hour_, f5 = 2.night_, f6 = 3.night_, f7 = 2.clouds_, f8 = 3.clouds_, f9 = 2.sightColumns_, f10 = 3.sightColumns_, f11 = 2.sightRows_, f12 = 3.sightRows_, f13 = 2.chance_, f14 = 3.chance_, f15 = 0.ruling_, f16 = 14.sky_, f17 = 14.law_, f18 = 14.starsAsked_, f19 = 14.x_, f20 = 14.y_, f21 = 15.tellsSeen_, f22 = 14.starsHold_, f23 = 15.clauses_, f24 = 15.answer_, f25 = 15.seenByPlace_, f26 = 17.hoursTaken_, f27 = 17.firstStar_; arrays: g0 = 4, g1 = 5, g2 = 6, g3 = 7, g4 = 8, g5 = 9, g6 = 10, g7 = 11, g8 = 12, g9 = 13, g10 = 16, g11 = 18, g12 = 19, g13 = 20, g14 = 21, g15 = 22, g16 = 23, g17 = 24, g18 = 25, g19 = 26, g20 = 27; out: [('ret', None), ('f', 2), ('f', 4), ('f', 6), ('f', 8), ('f', 10), ('f', 12), ('f', 14), ('f', 18), ('f', 19), ('f', 20), ('f', 22), ('f', 24), ('f', 26), ('f', 27), ('g', 1), ('g', 3), ('g', 5), ('g', 7), ('g', 9), ('g', 10), ('g', 12), ('g', 13), ('g', 18)]
abbrev zy_X_fastest : zNL := (28, [(0, 0), (1, 2), (2, 1), (3, 1), (14, 7), (15, 4), (17, 9)], [(1, 2, 1, 0), (2, 1, 0, 1), (3, 1, 0, 2), (2, 1, 6, 3), (3, 1, 6, 4), (2, 1, 7, 5), (3, 1, 7, 6), (2, 1, 8, 7), (3, 1, 8, 8), (2, 1, 9, 9), (3, 1, 9, 10), (2, 1, 10, 11), (3, 1, 10, 12), (2, 1, 11, 13), (3, 1, 11, 14), (0, 0, 7, 15), (14, 7, 0, 16), (14, 7, 1, 17), (14, 7, 6, 18), (14, 7, 2, 19), (14, 7, 3, 20), (15, 4, 8, 21), (14, 7, 7, 22), (15, 4, 7, 23), (15, 4, 14, 24), (15, 4, 10, 25), (17, 9, 0, 26), (17, 9, 1, 27)], [(0, 0, 3, 1), (0, 0, 0, 2), (0, 0, 2, 3), (2, 1, 1, 4), (3, 1, 1, 5), (2, 1, 2, 6), (3, 1, 2, 7), (2, 1, 3, 8), (3, 1, 3, 9), (2, 1, 4, 10), (3, 1, 4, 11), (2, 1, 5, 12), (3, 1, 5, 13), (0, 0, 12, 14), (14, 7, 8, 16), (0, 0, 15, 17), (1, 2, 2, 18), (17, 9, 4, 19), (15, 4, 12, 20), (15, 4, 3, 21), (15, 4, 5, 22), (15, 4, 6, 23), (15, 4, 0, 24), (15, 4, 13, 25), (15, 4, 1, 26), (1, 2, 0, 27)], [(4, 0, 24, 0), (5, 0, 24, 1), (6, 0, 24, 2), (7, 0, 24, 3), (8, 0, 24, 4), (9, 0, 24, 5), (10, 0, 24, 6), (11, 0, 24, 7), (12, 0, 24, 8), (13, 0, 24, 9), (16, 0, 24, 10), (18, 0, 6, 11), (19, 0, 24, 12), (20, 0, 13, 13), (21, 0, 14, 14), (22, 0, 14, 15), (23, 0, 14, 16), (24, 0, 200, 17), (25, 0, 40, 18), (26, 0, 200, 19), (27, 0, 12, 20)])
theorem zyw_X_fastest : zv_wf zy_X_fastest = true := by decide +kernel
theorem zye_X_fastest : zv_ek2 zy_X_fastest = true := by decide +kernel
def zf_X_fastest (x1 : Int) (x2 : Int) (x3 : Int) (x4 : Int) (x5 : Int) (f0 : Int) (f1 : Int) (f2 : Int) (f3 : Int) (f4 : Int) (f5 : Int) (f6 : Int) (f7 : Int) (f8 : Int) (f9 : Int) (f10 : Int) (f11 : Int) (f12 : Int) (f13 : Int) (f14 : Int) (f18 : Int) (f19 : Int) (f20 : Int) (f21 : Int) (f22 : Int) (f23 : Int) (f24 : Int) (f25 : Int) (f26 : Int) (f27 : Int) (g0 : (Int → Int)) (g1 : (Int → Int)) (g2 : (Int → Int)) (g3 : (Int → Int)) (g4 : (Int → Int)) (g5 : (Int → Int)) (g6 : (Int → Int)) (g7 : (Int → Int)) (g8 : (Int → Int)) (g9 : (Int → Int)) (g10 : (Int → Int)) (g11 : (Int → Int)) (g12 : (Int → Int)) (g13 : (Int → Int)) (g14 : (Int → Int)) (g15 : (Int → Int)) (g16 : (Int → Int)) (g17 : (Int → Int)) (g18 : (Int → Int)) (g19 : (Int → Int)) (g20 : (Int → Int)) : Option (Int × Int × Int × Int × Int × Int × Int × Int × Int × Int × Int × Int × Int × Int × Int × (Int → Int) × (Int → Int) × (Int → Int) × (Int → Int) × (Int → Int) × (Int → Int) × (Int → Int) × (Int → Int) × (Int → Int)) := (zf_X_canAskVoyage x1 x2 x3 f0 f1).bind fun r1 => (if r1 = 0 then (some ((-1), f2, f4, f6, f8, f10, f12, f14, f18, f19, f20, f22, f24, f26, f27, g1, g3, g5, g7, g9, g10, g12, g13, g18)) else ((zf_X_isWithin x4 1 48).bind fun r3 => (if r3 = 0 then (some ((-1), f2, f4, f6, f8, f10, f12, f14, f18, f19, f20, f22, f24, f26, f27, g1, g3, g5, g7, g9, g10, g12, g13, g18)) else ((zf_X_isWithin x5 0 1).bind fun r5 => (if r5 = 0 then (some ((-1), f2, f4, f6, f8, f10, f12, f14, f18, f19, f20, f22, f24, f26, f27, g1, g3, g5, g7, g9, g10, g12, g13, g18)) else ((zf_Sky_copyFrom f1 f2 f3 f4 f5 f6 f7 f8 f9 f10 f11 f12 f13 f14 g0 g1 g2 g3 g4 g5 g6 g7 g8 g9).bind fun r7 => ((zf_View_open f18 g10).bind fun r8 => (cond (zi_ix x1 6) ((zf_X_placeOf x2 x3).bind fun r10 => ((zf_Pilot_findFastest (g11 x1) r10 x4 r7.1 f19 f20 r7.2.1 r7.2.2.1 r7.2.2.2.2.1 r7.2.2.2.2.2.1 r7.2.2.2.1 f21 r8.1 f22 f23 f24 f25 f26 f27 g12 g13 r7.2.2.2.2.2.2.2.1 r7.2.2.2.2.2.2.2.2.1 r7.2.2.2.2.2.2.2.2.2.1 g14 g15 g16 g17 g18 g19 g20 r7.2.2.2.2.2.2.2.2.2.2.1 r7.2.2.2.2.2.2.2.2.2.2.2 r8.2).bind fun r11 => (if r11.1 = 0 then (some ((-2), r7.1, r11.2.2.2.1, r11.2.2.2.2.1, r7.2.2.2.1, r7.2.2.2.2.1, r7.2.2.2.2.2.1, r7.2.2.2.2.2.2.1, r11.2.2.2.2.2.1, r11.2.1, r11.2.2.1, r11.2.2.2.2.2.2.1, r11.2.2.2.2.2.2.2.1, r11.2.2.2.2.2.2.2.2.1, r11.2.2.2.2.2.2.2.2.2.1, r11.2.2.2.2.2.2.2.2.2.2.2.2.1, r11.2.2.2.2.2.2.2.2.2.2.2.2.2.1, r7.2.2.2.2.2.2.2.2.2.1, r7.2.2.2.2.2.2.2.2.2.2.1, r7.2.2.2.2.2.2.2.2.2.2.2, r11.2.2.2.2.2.2.2.2.2.2.2.2.2.2.2, r11.2.2.2.2.2.2.2.2.2.2.1, r11.2.2.2.2.2.2.2.2.2.2.2.1, r11.2.2.2.2.2.2.2.2.2.2.2.2.2.2.1)) else (if x5 = 0 then (some (r11.2.2.2.2.2.2.2.2.1, r7.1, r11.2.2.2.1, r11.2.2.2.2.1, r7.2.2.2.1, r7.2.2.2.2.1, r7.2.2.2.2.2.1, r7.2.2.2.2.2.2.1, r11.2.2.2.2.2.1, r11.2.1, r11.2.2.1, r11.2.2.2.2.2.2.1, r11.2.2.2.2.2.2.2.1, r11.2.2.2.2.2.2.2.2.1, r11.2.2.2.2.2.2.2.2.2.1, r11.2.2.2.2.2.2.2.2.2.2.2.2.1, r11.2.2.2.2.2.2.2.2.2.2.2.2.2.1, r7.2.2.2.2.2.2.2.2.2.1, r7.2.2.2.2.2.2.2.2.2.2.1, r7.2.2.2.2.2.2.2.2.2.2.2, r11.2.2.2.2.2.2.2.2.2.2.2.2.2.2.2, r11.2.2.2.2.2.2.2.2.2.2.1, r11.2.2.2.2.2.2.2.2.2.2.2.1, r11.2.2.2.2.2.2.2.2.2.2.2.2.2.2.1)) else (some (r11.2.2.2.2.2.2.2.2.2.1, r7.1, r11.2.2.2.1, r11.2.2.2.2.1, r7.2.2.2.1, r7.2.2.2.2.1, r7.2.2.2.2.2.1, r7.2.2.2.2.2.2.1, r11.2.2.2.2.2.1, r11.2.1, r11.2.2.1, r11.2.2.2.2.2.2.1, r11.2.2.2.2.2.2.2.1, r11.2.2.2.2.2.2.2.2.1, r11.2.2.2.2.2.2.2.2.2.1, r11.2.2.2.2.2.2.2.2.2.2.2.2.1, r11.2.2.2.2.2.2.2.2.2.2.2.2.2.1, r7.2.2.2.2.2.2.2.2.2.1, r7.2.2.2.2.2.2.2.2.2.2.1, r7.2.2.2.2.2.2.2.2.2.2.2, r11.2.2.2.2.2.2.2.2.2.2.2.2.2.2.2, r11.2.2.2.2.2.2.2.2.2.2.1, r11.2.2.2.2.2.2.2.2.2.2.2.1, r11.2.2.2.2.2.2.2.2.2.2.2.2.2.2.1)))))) none))))))))
theorem zd165_0 : decode zxm165.2.1 0 = .ok (.aload_n 0, 1) := by decide +kernel
theorem zd165_1 : decode zxm165.2.1 1 = .ok (.iload_n 1, 1) := by decide +kernel
theorem zd165_2 : decode zxm165.2.1 2 = .ok (.iload_n 2, 1) := by decide +kernel
theorem zd165_3 : decode zxm165.2.1 3 = .ok (.iload_n 3, 1) := by decide +kernel
theorem zd165_4 : decode zxm165.2.1 4 = .ok (.invokevirtual 353, 3) := by decide +kernel
theorem zd165_7 : decode zxm165.2.1 7 = .ok (.ifCond .eq 24, 3) := by decide +kernel
theorem zd165_10 : decode zxm165.2.1 10 = .ok (.iload 4, 2) := by decide +kernel
theorem zd165_12 : decode zxm165.2.1 12 = .ok (.iconst 1, 1) := by decide +kernel
theorem zd165_13 : decode zxm165.2.1 13 = .ok (.bipush 48, 2) := by decide +kernel
theorem zd165_15 : decode zxm165.2.1 15 = .ok (.invokestatic 126, 3) := by decide +kernel
theorem zd165_18 : decode zxm165.2.1 18 = .ok (.ifCond .eq 13, 3) := by decide +kernel
theorem zd165_21 : decode zxm165.2.1 21 = .ok (.iload 5, 2) := by decide +kernel
theorem zd165_23 : decode zxm165.2.1 23 = .ok (.iconst 0, 1) := by decide +kernel
theorem zd165_24 : decode zxm165.2.1 24 = .ok (.iconst 1, 1) := by decide +kernel
theorem zd165_25 : decode zxm165.2.1 25 = .ok (.invokestatic 126, 3) := by decide +kernel
theorem zd165_28 : decode zxm165.2.1 28 = .ok (.ifCond .ne 5, 3) := by decide +kernel
theorem zd165_31 : decode zxm165.2.1 31 = .ok (.iconst (-1), 1) := by decide +kernel
theorem zd165_32 : decode zxm165.2.1 32 = .ok (.ireturn, 1) := by decide +kernel
theorem zd165_33 : decode zxm165.2.1 33 = .ok (.aload_n 0, 1) := by decide +kernel
theorem zd165_34 : decode zxm165.2.1 34 = .ok (.getfield 19, 3) := by decide +kernel
theorem zd165_37 : decode zxm165.2.1 37 = .ok (.aload_n 0, 1) := by decide +kernel
theorem zd165_38 : decode zxm165.2.1 38 = .ok (.getfield 10, 3) := by decide +kernel
theorem zd165_41 : decode zxm165.2.1 41 = .ok (.invokevirtual 273, 3) := by decide +kernel
theorem zd165_44 : decode zxm165.2.1 44 = .ok (.aload_n 0, 1) := by decide +kernel
theorem zd165_45 : decode zxm165.2.1 45 = .ok (.getfield 81, 3) := by decide +kernel
theorem zd165_48 : decode zxm165.2.1 48 = .ok (.aload_n 0, 1) := by decide +kernel
theorem zd165_49 : decode zxm165.2.1 49 = .ok (.getfield 19, 3) := by decide +kernel
theorem zd165_52 : decode zxm165.2.1 52 = .ok (.aload_n 0, 1) := by decide +kernel
theorem zd165_53 : decode zxm165.2.1 53 = .ok (.getfield 46, 3) := by decide +kernel
theorem zd165_56 : decode zxm165.2.1 56 = .ok (.invokevirtual 211, 3) := by decide +kernel
theorem zd165_59 : decode zxm165.2.1 59 = .ok (.aload_n 0, 1) := by decide +kernel
theorem zd165_60 : decode zxm165.2.1 60 = .ok (.getfield 103, 3) := by decide +kernel
theorem zd165_63 : decode zxm165.2.1 63 = .ok (.aload_n 0, 1) := by decide +kernel
theorem zd165_64 : decode zxm165.2.1 64 = .ok (.getfield 81, 3) := by decide +kernel
theorem zd165_67 : decode zxm165.2.1 67 = .ok (.aload_n 0, 1) := by decide +kernel
theorem zd165_68 : decode zxm165.2.1 68 = .ok (.getfield 25, 3) := by decide +kernel
theorem zd165_71 : decode zxm165.2.1 71 = .ok (.aload_n 0, 1) := by decide +kernel
theorem zd165_72 : decode zxm165.2.1 72 = .ok (.getfield 25, 3) := by decide +kernel
theorem zd165_75 : decode zxm165.2.1 75 = .ok (.getfield 187, 3) := by decide +kernel
theorem zd165_78 : decode zxm165.2.1 78 = .ok (.iload_n 1, 1) := by decide +kernel
theorem zd165_79 : decode zxm165.2.1 79 = .ok (.iaload, 1) := by decide +kernel
theorem zd165_80 : decode zxm165.2.1 80 = .ok (.iload_n 2, 1) := by decide +kernel
theorem zd165_81 : decode zxm165.2.1 81 = .ok (.iload_n 3, 1) := by decide +kernel
theorem zd165_82 : decode zxm165.2.1 82 = .ok (.invokestatic 170, 3) := by decide +kernel
theorem zd165_85 : decode zxm165.2.1 85 = .ok (.iload 4, 2) := by decide +kernel
theorem zd165_87 : decode zxm165.2.1 87 = .ok (.invokevirtual 356, 3) := by decide +kernel
theorem zd165_90 : decode zxm165.2.1 90 = .ok (.ifCond .ne 6, 3) := by decide +kernel
theorem zd165_93 : decode zxm165.2.1 93 = .ok (.bipush (-2), 2) := by decide +kernel
theorem zd165_95 : decode zxm165.2.1 95 = .ok (.ireturn, 1) := by decide +kernel
theorem zd165_96 : decode zxm165.2.1 96 = .ok (.iload 5, 2) := by decide +kernel
theorem zd165_98 : decode zxm165.2.1 98 = .ok (.ifCond .ne 13, 3) := by decide +kernel
theorem zd165_101 : decode zxm165.2.1 101 = .ok (.aload_n 0, 1) := by decide +kernel
theorem zd165_102 : decode zxm165.2.1 102 = .ok (.getfield 103, 3) := by decide +kernel
theorem zd165_105 : decode zxm165.2.1 105 = .ok (.getfield 360, 3) := by decide +kernel
theorem zd165_108 : decode zxm165.2.1 108 = .ok (.goto 10, 3) := by decide +kernel
theorem zd165_111 : decode zxm165.2.1 111 = .ok (.aload_n 0, 1) := by decide +kernel
theorem zd165_112 : decode zxm165.2.1 112 = .ok (.getfield 103, 3) := by decide +kernel
theorem zd165_115 : decode zxm165.2.1 115 = .ok (.getfield 363, 3) := by decide +kernel
theorem zd165_118 : decode zxm165.2.1 118 = .ok (.ireturn, 1) := by decide +kernel
theorem zt_X_fastest {x1 : Int} {x2 : Int} {x3 : Int} {x4 : Int} {x5 : Int} {f0 : Int} {f1 : Int} {f2 : Int} {f3 : Int} {f4 : Int} {f5 : Int} {f6 : Int} {f7 : Int} {f8 : Int} {f9 : Int} {f10 : Int} {f11 : Int} {f12 : Int} {f13 : Int} {f14 : Int} {f18 : Int} {f19 : Int} {f20 : Int} {f21 : Int} {f22 : Int} {f23 : Int} {f24 : Int} {f25 : Int} {f26 : Int} {f27 : Int} {g0 : (Int → Int)} {g1 : (Int → Int)} {g2 : (Int → Int)} {g3 : (Int → Int)} {g4 : (Int → Int)} {g5 : (Int → Int)} {g6 : (Int → Int)} {g7 : (Int → Int)} {g8 : (Int → Int)} {g9 : (Int → Int)} {g10 : (Int → Int)} {g11 : (Int → Int)} {g12 : (Int → Int)} {g13 : (Int → Int)} {g14 : (Int → Int)} {g15 : (Int → Int)} {g16 : (Int → Int)} {g17 : (Int → Int)} {g18 : (Int → Int)} {g19 : (Int → Int)} {g20 : (Int → Int)} {o : Int × Int × Int × Int × Int × Int × Int × Int × Int × Int × Int × Int × Int × Int × Int × (Int → Int) × (Int → Int) × (Int → Int) × (Int → Int) × (Int → Int) × (Int → Int) × (Int → Int) × (Int → Int) × (Int → Int)} (h : zf_X_fastest x1 x2 x3 x4 x5 f0 f1 f2 f3 f4 f5 f6 f7 f8 f9 f10 f11 f12 f13 f14 f18 f19 f20 f21 f22 f23 f24 f25 f26 f27 g0 g1 g2 g3 g4 g5 g6 g7 g8 g9 g10 g11 g12 g13 g14 g15 g16 g17 g18 g19 g20 = some o) : zv_Fn z_TB z_cl z_KX zy_X_fastest zxm165 (7, 420) [.inr 0, .inl x1, .inl x2, .inl x3, .inl x4, .inl x5] [.inl f0, .inl f1, .inl f2, .inl f3, .inl f4, .inl f5, .inl f6, .inl f7, .inl f8, .inl f9, .inl f10, .inl f11, .inl f12, .inl f13, .inl f14, .inr 15, .inr 1000, .inr 1000, .inl f18, .inl f19, .inl f20, .inl f21, .inl f22, .inl f23, .inl f24, .inl f25, .inl f26, .inl f27] [g0, g1, g2, g3, g4, g5, g6, g7, g8, g9, g10, g11, g12, g13, g14, g15, g16, g17, g18, g19, g20] (some o.1) [.inl f0, .inl f1, .inl o.2.1, .inl f3, .inl o.2.2.1, .inl f5, .inl o.2.2.2.1, .inl f7, .inl o.2.2.2.2.1, .inl f9, .inl o.2.2.2.2.2.1, .inl f11, .inl o.2.2.2.2.2.2.1, .inl f13, .inl o.2.2.2.2.2.2.2.1, .inr 15, .inr 1000, .inr 1000, .inl o.2.2.2.2.2.2.2.2.1, .inl o.2.2.2.2.2.2.2.2.2.1, .inl o.2.2.2.2.2.2.2.2.2.2.1, .inl f21, .inl o.2.2.2.2.2.2.2.2.2.2.2.1, .inl f23, .inl o.2.2.2.2.2.2.2.2.2.2.2.2.1, .inl f25, .inl o.2.2.2.2.2.2.2.2.2.2.2.2.2.1, .inl o.2.2.2.2.2.2.2.2.2.2.2.2.2.2.1] [g0, o.2.2.2.2.2.2.2.2.2.2.2.2.2.2.2.1, g2, o.2.2.2.2.2.2.2.2.2.2.2.2.2.2.2.2.1, g4, o.2.2.2.2.2.2.2.2.2.2.2.2.2.2.2.2.2.1, g6, o.2.2.2.2.2.2.2.2.2.2.2.2.2.2.2.2.2.2.1, g8, o.2.2.2.2.2.2.2.2.2.2.2.2.2.2.2.2.2.2.2.1, o.2.2.2.2.2.2.2.2.2.2.2.2.2.2.2.2.2.2.2.2.1, g11, o.2.2.2.2.2.2.2.2.2.2.2.2.2.2.2.2.2.2.2.2.2.1, o.2.2.2.2.2.2.2.2.2.2.2.2.2.2.2.2.2.2.2.2.2.2.1, g14, g15, g16, g17, o.2.2.2.2.2.2.2.2.2.2.2.2.2.2.2.2.2.2.2.2.2.2.2, g19, g20] := zv_meth (K := (z_KF0, z_KC0, z_KL0, z_KT0, [], [], [], none)) (FT := z_FT) (MT := z_MT) (n := 6) zxp165 (z_ks0 _ (fun _ h => List.mem_cons_of_mem _ h) _ _ _ _ (fun j r h _ => by cases h)) (fun _ _ => zs_KX_p) zyw_X_fastest (fun va F G h => by obtain ⟨rfl, _⟩ := h; rfl) (fun va F G h => by obtain ⟨rfl, _⟩ := h; rfl) rfl fun good va F G hB hret hvret hP => by
  obtain ⟨rfl, rfl, rfl⟩ := hP
  unfold zf_X_fastest at h
  refine zv_ald hB zd165_0 rfl rfl rfl ?_
  refine zv_ild hB zd165_1 rfl rfl ?_
  refine zv_ild hB zd165_2 rfl rfl ?_
  refine zv_ild hB zd165_3 rfl rfl ?_
  obtain ⟨r1, hr1, h⟩ := zi_bind h
  refine zv_cv hB (zv_emq (va2 := [.inr 0, .inl x1, .inl x2, .inl x3]) (F := [.inl f0, .inl f1, .inl f2, .inl f3, .inl f4, .inl f5, .inl f6, .inl f7, .inl f8, .inl f9, .inl f10, .inl f11, .inl f12, .inl f13, .inl f14, .inr 15, .inr 1000, .inr 1000, .inl f18, .inl f19, .inl f20, .inl f21, .inl f22, .inl f23, .inl f24, .inl f25, .inl f26, .inl f27]) (F' := [.inl f0, .inl f1, .inl f2, .inl f3, .inl f4, .inl f5, .inl f6, .inl f7, .inl f8, .inl f9, .inl f10, .inl f11, .inl f12, .inl f13, .inl f14, .inr 15, .inr 1000, .inr 1000, .inl f18, .inl f19, .inl f20, .inl f21, .inl f22, .inl f23, .inl f24, .inl f25, .inl f26, .inl f27]) (G := [g0, g1, g2, g3, g4, g5, g6, g7, g8, g9, g10, g11, g12, g13, g14, g15, g16, g17, g18, g19, g20]) (G' := [g0, g1, g2, g3, g4, g5, g6, g7, g8, g9, g10, g11, g12, g13, g14, g15, g16, g17, g18, g19, g20]) (ρ := [0, 1, 2]) (φ := [0, 1]) (ψ := []) [some 0, some 1, none, none, none, none, none, none, none, none, none, none, none, none, none, none, none, none, none, none, none, none, none, none, none, none, none, none] [none, none, none, none, none, none, none, none, none, none, none, none, none, none, none, none, none, none, none, none, none] zyw_X_canAskVoyage zyw_X_fastest zye_X_fastest (by decide +kernel) (zt_X_canAskVoyage hr1) ⟨⟨_, rfl, fun _ => rfl⟩, ⟨_, rfl, fun _ => rfl⟩, trivial⟩ trivial rfl rfl rfl rfl rfl rfl rfl) zd165_4 zxt166 rfl (by decide) (by decide) rfl ?_
  refine zv_zeq hB zd165_7 rfl (fun hc2 => ?_) (fun hc2 => ?_)
  · rw [if_pos hc2] at h
    refine zv_con hB zd165_31 rfl ?_
    have hw := Option.some.inj h
    subst hw
    exact hret _ _ _ _ _ zd165_32 (by trivial) ⟨rfl, rfl, rfl⟩
  · rw [if_neg hc2] at h
    refine zv_ild hB zd165_10 rfl rfl ?_
    refine zv_con hB zd165_12 rfl ?_
    refine zv_con hB zd165_13 rfl ?_
    obtain ⟨r3, hr3, h⟩ := zi_bind h
    refine zv_cs hB (zv_emq (va2 := [.inl x4, .inl 1, .inl 48]) (F := [.inl f0, .inl f1, .inl f2, .inl f3, .inl f4, .inl f5, .inl f6, .inl f7, .inl f8, .inl f9, .inl f10, .inl f11, .inl f12, .inl f13, .inl f14, .inr 15, .inr 1000, .inr 1000, .inl f18, .inl f19, .inl f20, .inl f21, .inl f22, .inl f23, .inl f24, .inl f25, .inl f26, .inl f27]) (F' := [.inl f0, .inl f1, .inl f2, .inl f3, .inl f4, .inl f5, .inl f6, .inl f7, .inl f8, .inl f9, .inl f10, .inl f11, .inl f12, .inl f13, .inl f14, .inr 15, .inr 1000, .inr 1000, .inl f18, .inl f19, .inl f20, .inl f21, .inl f22, .inl f23, .inl f24, .inl f25, .inl f26, .inl f27]) (G := [g0, g1, g2, g3, g4, g5, g6, g7, g8, g9, g10, g11, g12, g13, g14, g15, g16, g17, g18, g19, g20]) (G' := [g0, g1, g2, g3, g4, g5, g6, g7, g8, g9, g10, g11, g12, g13, g14, g15, g16, g17, g18, g19, g20]) (ρ := []) (φ := []) (ψ := []) [none, none, none, none, none, none, none, none, none, none, none, none, none, none, none, none, none, none, none, none, none, none, none, none, none, none, none, none] [none, none, none, none, none, none, none, none, none, none, none, none, none, none, none, none, none, none, none, none, none] zyw_X_isWithin zyw_X_fastest zye_X_fastest (by decide +kernel) (zt_X_isWithin hr3) trivial trivial rfl rfl rfl rfl rfl rfl rfl) zd165_15 zxt15 rfl (by decide) (by decide) rfl ?_
    refine zv_zeq hB zd165_18 rfl (fun hc4 => ?_) (fun hc4 => ?_)
    · rw [if_pos hc4] at h
      refine zv_con hB zd165_31 rfl ?_
      have hw := Option.some.inj h
      subst hw
      exact hret _ _ _ _ _ zd165_32 (by trivial) ⟨rfl, rfl, rfl⟩
    · rw [if_neg hc4] at h
      refine zv_ild hB zd165_21 rfl rfl ?_
      refine zv_con hB zd165_23 rfl ?_
      refine zv_con hB zd165_24 rfl ?_
      obtain ⟨r5, hr5, h⟩ := zi_bind h
      refine zv_cs hB (zv_emq (va2 := [.inl x5, .inl 0, .inl 1]) (F := [.inl f0, .inl f1, .inl f2, .inl f3, .inl f4, .inl f5, .inl f6, .inl f7, .inl f8, .inl f9, .inl f10, .inl f11, .inl f12, .inl f13, .inl f14, .inr 15, .inr 1000, .inr 1000, .inl f18, .inl f19, .inl f20, .inl f21, .inl f22, .inl f23, .inl f24, .inl f25, .inl f26, .inl f27]) (F' := [.inl f0, .inl f1, .inl f2, .inl f3, .inl f4, .inl f5, .inl f6, .inl f7, .inl f8, .inl f9, .inl f10, .inl f11, .inl f12, .inl f13, .inl f14, .inr 15, .inr 1000, .inr 1000, .inl f18, .inl f19, .inl f20, .inl f21, .inl f22, .inl f23, .inl f24, .inl f25, .inl f26, .inl f27]) (G := [g0, g1, g2, g3, g4, g5, g6, g7, g8, g9, g10, g11, g12, g13, g14, g15, g16, g17, g18, g19, g20]) (G' := [g0, g1, g2, g3, g4, g5, g6, g7, g8, g9, g10, g11, g12, g13, g14, g15, g16, g17, g18, g19, g20]) (ρ := []) (φ := []) (ψ := []) [none, none, none, none, none, none, none, none, none, none, none, none, none, none, none, none, none, none, none, none, none, none, none, none, none, none, none, none] [none, none, none, none, none, none, none, none, none, none, none, none, none, none, none, none, none, none, none, none, none] zyw_X_isWithin zyw_X_fastest zye_X_fastest (by decide +kernel) (zt_X_isWithin hr5) trivial trivial rfl rfl rfl rfl rfl rfl rfl) zd165_25 zxt15 rfl (by decide) (by decide) rfl ?_
      refine zv_zne hB zd165_28 rfl (fun hc6 => ?_) (fun hc6 => ?_)
      · rw [if_neg hc6] at h
        refine zv_ald hB zd165_33 rfl rfl rfl ?_
        refine zv_getr hB zd165_34 rfl ?_
        refine zv_ald hB zd165_37 rfl rfl rfl ?_
        refine zv_getr hB zd165_38 rfl ?_
        obtain ⟨r7, hr7, h⟩ := zi_bind h
        refine zv_cv hB (zv_emq (va2 := [.inr 3, .inr 2]) (F := [.inl f0, .inl f1, .inl f2, .inl f3, .inl f4, .inl f5, .inl f6, .inl f7, .inl f8, .inl f9, .inl f10, .inl f11, .inl f12, .inl f13, .inl f14, .inr 15, .inr 1000, .inr 1000, .inl f18, .inl f19, .inl f20, .inl f21, .inl f22, .inl f23, .inl f24, .inl f25, .inl f26, .inl f27]) (F' := [.inl f0, .inl f1, .inl r7.1, .inl f3, .inl r7.2.1, .inl f5, .inl r7.2.2.1, .inl f7, .inl r7.2.2.2.1, .inl f9, .inl r7.2.2.2.2.1, .inl f11, .inl r7.2.2.2.2.2.1, .inl f13, .inl r7.2.2.2.2.2.2.1, .inr 15, .inr 1000, .inr 1000, .inl f18, .inl f19, .inl f20, .inl f21, .inl f22, .inl f23, .inl f24, .inl f25, .inl f26, .inl f27]) (G := [g0, g1, g2, g3, g4, g5, g6, g7, g8, g9, g10, g11, g12, g13, g14, g15, g16, g17, g18, g19, g20]) (G' := [g0, r7.2.2.2.2.2.2.2.1, g2, r7.2.2.2.2.2.2.2.2.1, g4, r7.2.2.2.2.2.2.2.2.2.1, g6, r7.2.2.2.2.2.2.2.2.2.2.1, g8, r7.2.2.2.2.2.2.2.2.2.2.2, g10, g11, g12, g13, g14, g15, g16, g17, g18, g19, g20]) (ρ := [3, 2, 4, 5, 6, 7, 8, 9, 10, 11, 12, 13]) (φ := [1, 2, 3, 4, 5, 6, 7, 8, 9, 10, 11, 12, 13, 14]) (ψ := [0, 1, 2, 3, 4, 5, 6, 7, 8, 9]) [none, some 0, some 1, some 2, some 3, some 4, some 5, some 6, some 7, some 8, some 9, some 10, some 11, some 12, some 13, none, none, none, none, none, none, none, none, none, none, none, none, none] [some 0, some 1, some 2, some 3, some 4, some 5, some 6, some 7, some 8, some 9, none, none, none, none, none, none, none, none, none, none, none] zyw_Sky_copyFrom zyw_X_fastest zye_X_fastest (by decide +kernel) (zt_Sky_copyFrom hr7) ⟨⟨_, rfl, fun _ => rfl⟩, ⟨_, rfl, fun _ => rfl⟩, ⟨_, rfl, fun _ => rfl⟩, ⟨_, rfl, fun _ => rfl⟩, ⟨_, rfl, fun _ => rfl⟩, ⟨_, rfl, fun _ => rfl⟩, ⟨_, rfl, fun _ => rfl⟩, ⟨_, rfl, fun _ => rfl⟩, ⟨_, rfl, fun _ => rfl⟩, ⟨_, rfl, fun _ => rfl⟩, ⟨_, rfl, fun _ => rfl⟩, ⟨_, rfl, fun _ => rfl⟩, ⟨_, rfl, fun _ => rfl⟩, ⟨_, rfl, fun _ => rfl⟩, trivial⟩ ⟨rfl, rfl, rfl, rfl, rfl, rfl, rfl, rfl, rfl, rfl, trivial⟩ rfl rfl rfl rfl rfl rfl rfl) zd165_41 zxt125 rfl (by decide) (by decide) rfl ?_
        refine zv_ald hB zd165_44 rfl rfl rfl ?_
        refine zv_getr hB zd165_45 rfl ?_
        refine zv_ald hB zd165_48 rfl rfl rfl ?_
        refine zv_getr hB zd165_49 rfl ?_
        refine zv_ald hB zd165_52 rfl rfl rfl ?_
        refine zv_getq hB zd165_53 rfl rfl rfl ?_
        obtain ⟨r8, hr8, h⟩ := zi_bind h
        refine zv_cv hB (zv_emq (va2 := [.inr 14, .inr 3, .inr 15]) (F := [.inl f0, .inl f1, .inl r7.1, .inl f3, .inl r7.2.1, .inl f5, .inl r7.2.2.1, .inl f7, .inl r7.2.2.2.1, .inl f9, .inl r7.2.2.2.2.1, .inl f11, .inl r7.2.2.2.2.2.1, .inl f13, .inl r7.2.2.2.2.2.2.1, .inr 15, .inr 1000, .inr 1000, .inl f18, .inl f19, .inl f20, .inl f21, .inl f22, .inl f23, .inl f24, .inl f25, .inl f26, .inl f27]) (F' := [.inl f0, .inl f1, .inl r7.1, .inl f3, .inl r7.2.1, .inl f5, .inl r7.2.2.1, .inl f7, .inl r7.2.2.2.1, .inl f9, .inl r7.2.2.2.2.1, .inl f11, .inl r7.2.2.2.2.2.1, .inl f13, .inl r7.2.2.2.2.2.2.1, .inr 15, .inr 3, .inr 15, .inl r8.1, .inl f19, .inl f20, .inl f21, .inl f22, .inl f23, .inl f24, .inl f25, .inl f26, .inl f27]) (G := [g0, r7.2.2.2.2.2.2.2.1, g2, r7.2.2.2.2.2.2.2.2.1, g4, r7.2.2.2.2.2.2.2.2.2.1, g6, r7.2.2.2.2.2.2.2.2.2.2.1, g8, r7.2.2.2.2.2.2.2.2.2.2.2, g10, g11, g12, g13, g14, g15, g16, g17, g18, g19, g20]) (G' := [g0, r7.2.2.2.2.2.2.2.1, g2, r7.2.2.2.2.2.2.2.2.1, g4, r7.2.2.2.2.2.2.2.2.2.1, g6, r7.2.2.2.2.2.2.2.2.2.2.1, g8, r7.2.2.2.2.2.2.2.2.2.2.2, r8.2, g11, g12, g13, g14, g15, g16, g17, g18, g19, g20]) (ρ := [14, 3, 15, 16]) (φ := [16, 17, 18]) (ψ := [10]) [none, none, none, none, none, none, none, none, none, none, none, none, none, none, none, none, some 0, some 1, some 2, none, none, none, none, none, none, none, none, none] [none, none, none, none, none, none, none, none, none, none, some 0, none, none, none, none, none, none, none, none, none, none] zyw_View_open zyw_X_fastest zye_X_fastest (by decide +kernel) (zt_View_open hr8) ⟨⟨_, rfl, fun (h : zv_is (.inr 1000)) => (Nat.lt_irrefl 1000 h).elim⟩, ⟨_, rfl, fun (h : zv_is (.inr 1000)) => (Nat.lt_irrefl 1000 h).elim⟩, ⟨_, rfl, fun _ => rfl⟩, trivial⟩ ⟨rfl, trivial⟩ rfl rfl rfl rfl rfl rfl rfl) zd165_56 zxt84 rfl (by decide) (by decide) rfl ?_
        refine zv_ald hB zd165_59 rfl rfl rfl ?_
        refine zv_getr hB zd165_60 rfl ?_
        refine zv_ald hB zd165_63 rfl rfl rfl ?_
        refine zv_getr hB zd165_64 rfl ?_
        refine zv_ald hB zd165_67 rfl rfl rfl ?_
        refine zv_getr hB zd165_68 rfl ?_
        refine zv_ald hB zd165_71 rfl rfl rfl ?_
        refine zv_getr hB zd165_72 rfl ?_
        refine zv_getr hB zd165_75 rfl ?_
        refine zv_ild hB zd165_78 rfl rfl ?_
        obtain ⟨c9, h⟩ := zi_if h
        refine zv_iald hB zd165_79 rfl rfl (zi_ix_ok c9).1 (zi_ix_ok c9).2 (fun _ _ => ?_)
        refine zv_ild hB zd165_80 rfl rfl ?_
        refine zv_ild hB zd165_81 rfl rfl ?_
        obtain ⟨r10, hr10, h⟩ := zi_bind h
        refine zv_cs hB (zv_emq (va2 := [.inl x2, .inl x3]) (F := [.inl f0, .inl f1, .inl r7.1, .inl f3, .inl r7.2.1, .inl f5, .inl r7.2.2.1, .inl f7, .inl r7.2.2.2.1, .inl f9, .inl r7.2.2.2.2.1, .inl f11, .inl r7.2.2.2.2.2.1, .inl f13, .inl r7.2.2.2.2.2.2.1, .inr 15, .inr 3, .inr 15, .inl r8.1, .inl f19, .inl f20, .inl f21, .inl f22, .inl f23, .inl f24, .inl f25, .inl f26, .inl f27]) (F' := [.inl f0, .inl f1, .inl r7.1, .inl f3, .inl r7.2.1, .inl f5, .inl r7.2.2.1, .inl f7, .inl r7.2.2.2.1, .inl f9, .inl r7.2.2.2.2.1, .inl f11, .inl r7.2.2.2.2.2.1, .inl f13, .inl r7.2.2.2.2.2.2.1, .inr 15, .inr 3, .inr 15, .inl r8.1, .inl f19, .inl f20, .inl f21, .inl f22, .inl f23, .inl f24, .inl f25, .inl f26, .inl f27]) (G := [g0, r7.2.2.2.2.2.2.2.1, g2, r7.2.2.2.2.2.2.2.2.1, g4, r7.2.2.2.2.2.2.2.2.2.1, g6, r7.2.2.2.2.2.2.2.2.2.2.1, g8, r7.2.2.2.2.2.2.2.2.2.2.2, r8.2, g11, g12, g13, g14, g15, g16, g17, g18, g19, g20]) (G' := [g0, r7.2.2.2.2.2.2.2.1, g2, r7.2.2.2.2.2.2.2.2.1, g4, r7.2.2.2.2.2.2.2.2.2.1, g6, r7.2.2.2.2.2.2.2.2.2.2.1, g8, r7.2.2.2.2.2.2.2.2.2.2.2, r8.2, g11, g12, g13, g14, g15, g16, g17, g18, g19, g20]) (ρ := []) (φ := []) (ψ := []) [none, none, none, none, none, none, none, none, none, none, none, none, none, none, none, none, none, none, none, none, none, none, none, none, none, none, none, none] [none, none, none, none, none, none, none, none, none, none, none, none, none, none, none, none, none, none, none, none, none] zyw_X_placeOf zyw_X_fastest zye_X_fastest (by decide +kernel) (zt_X_placeOf hr10) trivial trivial rfl rfl rfl rfl rfl rfl rfl) zd165_82 zxt24 rfl (by decide) (by decide) rfl ?_
        refine zv_ild hB zd165_85 rfl rfl ?_
        obtain ⟨r11, hr11, h⟩ := zi_bind h
        refine zv_cv hB (zv_emq (va2 := [.inr 17, .inr 14, .inr 1, .inl (g11 x1), .inl r10, .inl x4]) (F := [.inl f0, .inl f1, .inl r7.1, .inl f3, .inl r7.2.1, .inl f5, .inl r7.2.2.1, .inl f7, .inl r7.2.2.2.1, .inl f9, .inl r7.2.2.2.2.1, .inl f11, .inl r7.2.2.2.2.2.1, .inl f13, .inl r7.2.2.2.2.2.2.1, .inr 15, .inr 3, .inr 15, .inl r8.1, .inl f19, .inl f20, .inl f21, .inl f22, .inl f23, .inl f24, .inl f25, .inl f26, .inl f27]) (F' := [.inl f0, .inl f1, .inl r7.1, .inl f3, .inl r11.2.2.2.1, .inl f5, .inl r11.2.2.2.2.1, .inl f7, .inl r7.2.2.2.1, .inl f9, .inl r7.2.2.2.2.1, .inl f11, .inl r7.2.2.2.2.2.1, .inl f13, .inl r7.2.2.2.2.2.2.1, .inr 15, .inr 3, .inr 15, .inl r11.2.2.2.2.2.1, .inl r11.2.1, .inl r11.2.2.1, .inl f21, .inl r11.2.2.2.2.2.2.1, .inl f23, .inl r11.2.2.2.2.2.2.2.1, .inl f25, .inl r11.2.2.2.2.2.2.2.2.1, .inl r11.2.2.2.2.2.2.2.2.2.1]) (G := [g0, r7.2.2.2.2.2.2.2.1, g2, r7.2.2.2.2.2.2.2.2.1, g4, r7.2.2.2.2.2.2.2.2.2.1, g6, r7.2.2.2.2.2.2.2.2.2.2.1, g8, r7.2.2.2.2.2.2.2.2.2.2.2, r8.2, g11, g12, g13, g14, g15, g16, g17, g18, g19, g20]) (G' := [g0, r11.2.2.2.2.2.2.2.2.2.2.2.2.1, g2, r11.2.2.2.2.2.2.2.2.2.2.2.2.2.1, g4, r7.2.2.2.2.2.2.2.2.2.1, g6, r7.2.2.2.2.2.2.2.2.2.2.1, g8, r7.2.2.2.2.2.2.2.2.2.2.2, r11.2.2.2.2.2.2.2.2.2.2.2.2.2.2.2, g11, r11.2.2.2.2.2.2.2.2.2.2.1, r11.2.2.2.2.2.2.2.2.2.2.2.1, g14, g15, g16, g17, r11.2.2.2.2.2.2.2.2.2.2.2.2.2.2.1, g19, g20]) (ρ := [17, 14, 1, 3, 19, 15, 20, 5, 7, 9, 21, 22, 23, 24, 25, 26, 27, 11, 13, 16]) (φ := [16, 17, 2, 19, 20, 4, 6, 10, 12, 8, 21, 18, 22, 23, 24, 25, 26, 27]) (ψ := [12, 13, 1, 3, 5, 14, 15, 16, 17, 18, 19, 20, 7, 9, 10]) [none, none, some 2, none, some 5, none, some 6, none, some 9, none, some 7, none, some 8, none, none, none, some 0, some 1, some 11, some 3, some 4, some 10, some 12, some 13, some 14, some 15, some 16, some 17] [none, some 2, none, some 3, none, some 4, none, some 12, none, some 13, some 14, none, some 0, some 1, some 5, some 6, some 7, some 8, some 9, some 10, some 11] zyw_Pilot_findFastest zyw_X_fastest zye_X_fastest (by decide +kernel) (zt_Pilot_findFastest hr11) ⟨⟨_, rfl, fun _ => rfl⟩, ⟨_, rfl, fun _ => rfl⟩, ⟨_, rfl, fun _ => rfl⟩, ⟨_, rfl, fun _ => rfl⟩, ⟨_, rfl, fun _ => rfl⟩, ⟨_, rfl, fun _ => rfl⟩, ⟨_, rfl, fun _ => rfl⟩, ⟨_, rfl, fun _ => rfl⟩, ⟨_, rfl, fun _ => rfl⟩, ⟨_, rfl, fun _ => rfl⟩, ⟨_, rfl, fun _ => rfl⟩, ⟨_, rfl, fun _ => rfl⟩, ⟨_, rfl, fun _ => rfl⟩, ⟨_, rfl, fun _ => rfl⟩, ⟨_, rfl, fun _ => rfl⟩, ⟨_, rfl, fun _ => rfl⟩, ⟨_, rfl, fun _ => rfl⟩, ⟨_, rfl, fun _ => rfl⟩, trivial⟩ ⟨rfl, rfl, rfl, rfl, rfl, rfl, rfl, rfl, rfl, rfl, rfl, rfl, rfl, rfl, rfl, trivial⟩ rfl rfl rfl rfl rfl rfl rfl) zd165_87 zxt167 rfl (by decide) (by decide) rfl ?_
        refine zv_zne hB zd165_90 rfl (fun hc12 => ?_) (fun hc12 => ?_)
        · rw [if_neg hc12] at h
          refine zv_ild hB zd165_96 rfl rfl ?_
          refine zv_zne hB zd165_98 rfl (fun hc13 => ?_) (fun hc13 => ?_)
          · rw [if_neg hc13] at h
            refine zv_ald hB zd165_111 rfl rfl rfl ?_
            refine zv_getr hB zd165_112 rfl ?_
            refine zv_getf hB zd165_115 rfl rfl (fun _ _ => ?_)
            have hw := Option.some.inj h
            refine zv_wk hB (L' := [.inr 0, .inl x1, .inl x2, .inl x3, .inl x4, .inl x5]) (F' := [.inl f0, .inl f1, .inl r7.1, .inl f3, .inl r11.2.2.2.1, .inl f5, .inl r11.2.2.2.2.1, .inl f7, .inl r7.2.2.2.1, .inl f9, .inl r7.2.2.2.2.1, .inl f11, .inl r7.2.2.2.2.2.1, .inl f13, .inl r7.2.2.2.2.2.2.1, .inr 15, .inr 1000, .inr 1000, .inl r11.2.2.2.2.2.1, .inl r11.2.1, .inl r11.2.2.1, .inl f21, .inl r11.2.2.2.2.2.2.1, .inl f23, .inl r11.2.2.2.2.2.2.2.1, .inl f25, .inl r11.2.2.2.2.2.2.2.2.1, .inl r11.2.2.2.2.2.2.2.2.2.1]) ⟨fun _ => rfl, fun _ => rfl, fun _ => rfl, fun _ => rfl, fun _ => rfl, fun _ => rfl, trivial⟩ ⟨fun _ => rfl, fun _ => rfl, fun _ => rfl, fun _ => rfl, fun _ => rfl, fun _ => rfl, fun _ => rfl, fun _ => rfl, fun _ => rfl, fun _ => rfl, fun _ => rfl, fun _ => rfl, fun _ => rfl, fun _ => rfl, fun _ => rfl, fun _ => rfl, fun (h : zv_is (.inr 1000)) => (Nat.lt_irrefl 1000 h).elim, fun (h : zv_is (.inr 1000)) => (Nat.lt_irrefl 1000 h).elim, fun _ => rfl, fun _ => rfl, fun _ => rfl, fun _ => rfl, fun _ => rfl, fun _ => rfl, fun _ => rfl, fun _ => rfl, fun _ => rfl, fun _ => rfl, trivial⟩ ?_
            subst hw
            exact hret _ _ _ _ _ zd165_118 (by trivial) ⟨rfl, rfl, rfl⟩
          · rw [if_pos hc13] at h
            refine zv_ald hB zd165_101 rfl rfl rfl ?_
            refine zv_getr hB zd165_102 rfl ?_
            refine zv_getf hB zd165_105 rfl rfl (fun _ _ => ?_)
            refine zv_goto hB zd165_108 rfl ?_
            have hw := Option.some.inj h
            refine zv_wk hB (L' := [.inr 0, .inl x1, .inl x2, .inl x3, .inl x4, .inl x5]) (F' := [.inl f0, .inl f1, .inl r7.1, .inl f3, .inl r11.2.2.2.1, .inl f5, .inl r11.2.2.2.2.1, .inl f7, .inl r7.2.2.2.1, .inl f9, .inl r7.2.2.2.2.1, .inl f11, .inl r7.2.2.2.2.2.1, .inl f13, .inl r7.2.2.2.2.2.2.1, .inr 15, .inr 1000, .inr 1000, .inl r11.2.2.2.2.2.1, .inl r11.2.1, .inl r11.2.2.1, .inl f21, .inl r11.2.2.2.2.2.2.1, .inl f23, .inl r11.2.2.2.2.2.2.2.1, .inl f25, .inl r11.2.2.2.2.2.2.2.2.1, .inl r11.2.2.2.2.2.2.2.2.2.1]) ⟨fun _ => rfl, fun _ => rfl, fun _ => rfl, fun _ => rfl, fun _ => rfl, fun _ => rfl, trivial⟩ ⟨fun _ => rfl, fun _ => rfl, fun _ => rfl, fun _ => rfl, fun _ => rfl, fun _ => rfl, fun _ => rfl, fun _ => rfl, fun _ => rfl, fun _ => rfl, fun _ => rfl, fun _ => rfl, fun _ => rfl, fun _ => rfl, fun _ => rfl, fun _ => rfl, fun (h : zv_is (.inr 1000)) => (Nat.lt_irrefl 1000 h).elim, fun (h : zv_is (.inr 1000)) => (Nat.lt_irrefl 1000 h).elim, fun _ => rfl, fun _ => rfl, fun _ => rfl, fun _ => rfl, fun _ => rfl, fun _ => rfl, fun _ => rfl, fun _ => rfl, fun _ => rfl, fun _ => rfl, trivial⟩ ?_
            subst hw
            exact hret _ _ _ _ _ zd165_118 (by trivial) ⟨rfl, rfl, rfl⟩
        · rw [if_pos hc12] at h
          refine zv_con hB zd165_93 rfl ?_
          have hw := Option.some.inj h
          refine zv_wk hB (L' := [.inr 0, .inl x1, .inl x2, .inl x3, .inl x4, .inl x5]) (F' := [.inl f0, .inl f1, .inl r7.1, .inl f3, .inl r11.2.2.2.1, .inl f5, .inl r11.2.2.2.2.1, .inl f7, .inl r7.2.2.2.1, .inl f9, .inl r7.2.2.2.2.1, .inl f11, .inl r7.2.2.2.2.2.1, .inl f13, .inl r7.2.2.2.2.2.2.1, .inr 15, .inr 1000, .inr 1000, .inl r11.2.2.2.2.2.1, .inl r11.2.1, .inl r11.2.2.1, .inl f21, .inl r11.2.2.2.2.2.2.1, .inl f23, .inl r11.2.2.2.2.2.2.2.1, .inl f25, .inl r11.2.2.2.2.2.2.2.2.1, .inl r11.2.2.2.2.2.2.2.2.2.1]) ⟨fun _ => rfl, fun _ => rfl, fun _ => rfl, fun _ => rfl, fun _ => rfl, fun _ => rfl, trivial⟩ ⟨fun _ => rfl, fun _ => rfl, fun _ => rfl, fun _ => rfl, fun _ => rfl, fun _ => rfl, fun _ => rfl, fun _ => rfl, fun _ => rfl, fun _ => rfl, fun _ => rfl, fun _ => rfl, fun _ => rfl, fun _ => rfl, fun _ => rfl, fun _ => rfl, fun (h : zv_is (.inr 1000)) => (Nat.lt_irrefl 1000 h).elim, fun (h : zv_is (.inr 1000)) => (Nat.lt_irrefl 1000 h).elim, fun _ => rfl, fun _ => rfl, fun _ => rfl, fun _ => rfl, fun _ => rfl, fun _ => rfl, fun _ => rfl, fun _ => rfl, fun _ => rfl, fun _ => rfl, trivial⟩ ?_
          subst hw
          exact hret _ _ _ _ _ zd165_95 (by trivial) ⟨rfl, rfl, rfl⟩
      · rw [if_pos hc6] at h
        refine zv_con hB zd165_31 rfl ?_
        have hw := Option.some.inj h
        subst hw
        exact hret _ _ _ _ _ zd165_32 (by trivial) ⟨rfl, rfl, rfl⟩
end
section
/-! Methods as functions, and that they do what these do. -/
/-! Pilot_isBroughtByLower (LStarTales$Sky;I)Z -/
-- names: 0 Pilot('arg', 0), 1 Sky('arg', 1), 2 (0, 24)(0, 9, 4)
-- fields: f0 = 1.told_; arrays: g0 = 2; out: [('ret', None)]
abbrev zy_Pilot_isBroughtByLower : zNL := (3, [(0, 9), (1, 1)], [(1, 1, 0, 0)], [(0, 9, 4, 2)], [(2, 0, 24, 0)])
theorem zyw_Pilot_isBroughtByLower : zv_wf zy_Pilot_isBroughtByLower = true := by decide +kernel
theorem zye_Pilot_isBroughtByLower : zv_ek2 zy_Pilot_isBroughtByLower = true := by decide +kernel
def zf_Pilot_isBroughtByLower_l0_b (x2 : Int) (f0 : Int) (g0 : (Int → Int)) (rec : Int → Option (((Unit) ⊕ (Int)))) (x3 : Int) : Option (((Unit) ⊕ (Int))) := if x3 < x2 then ((zf_Sky_hasStar x3 f0).bind fun r2 => (if r2 = 0 then (rec (zi_w (x3 + 1))) else (cond (zi_ix x3 24) (cond (zi_ix x2 24) (if (g0 x3) = (g0 x2) then (some (.inr 1)) else (rec (zi_w (x3 + 1)))) none) none))) else (some (.inl ()))
def zf_Pilot_isBroughtByLower_l0 (x2 : Int) (f0 : Int) (g0 : (Int → Int)) : Nat → Int → Option (((Unit) ⊕ (Int)))
  | 0, _ => none
  | n + 1, x3 => zf_Pilot_isBroughtByLower_l0_b x2 f0 g0 (zf_Pilot_isBroughtByLower_l0 x2 f0 g0 n) x3
def zf_Pilot_isBroughtByLower (x2 : Int) (f0 : Int) (g0 : (Int → Int)) : Option (Int) := (zf_Pilot_isBroughtByLower_l0 x2 f0 g0 zi_fu 0).bind fun q7 => Sum.elim (fun e8 => (some 0)) (fun w9 => some w9) q7
theorem zd173_0 : decode zxm173.2.1 0 = .ok (.iconst 0, 1) := by decide +kernel
theorem zd173_1 : decode zxm173.2.1 1 = .ok (.istore_n 3, 1) := by decide +kernel
theorem zd173_2 : decode zxm173.2.1 2 = .ok (.iload_n 3, 1) := by decide +kernel
theorem zd173_3 : decode zxm173.2.1 3 = .ok (.iload_n 2, 1) := by decide +kernel
theorem zd173_4 : decode zxm173.2.1 4 = .ok (.if_icmp .ge 34, 3) := by decide +kernel
theorem zd173_7 : decode zxm173.2.1 7 = .ok (.aload_n 1, 1) := by decide +kernel
theorem zd173_8 : decode zxm173.2.1 8 = .ok (.iload_n 3, 1) := by decide +kernel
theorem zd173_9 : decode zxm173.2.1 9 = .ok (.invokevirtual 120, 3) := by decide +kernel
theorem zd173_12 : decode zxm173.2.1 12 = .ok (.ifCond .eq 20, 3) := by decide +kernel
theorem zd173_15 : decode zxm173.2.1 15 = .ok (.aload_n 0, 1) := by decide +kernel
theorem zd173_16 : decode zxm173.2.1 16 = .ok (.getfield 24, 3) := by decide +kernel
theorem zd173_19 : decode zxm173.2.1 19 = .ok (.iload_n 3, 1) := by decide +kernel
theorem zd173_20 : decode zxm173.2.1 20 = .ok (.iaload, 1) := by decide +kernel
theorem zd173_21 : decode zxm173.2.1 21 = .ok (.aload_n 0, 1) := by decide +kernel
theorem zd173_22 : decode zxm173.2.1 22 = .ok (.getfield 24, 3) := by decide +kernel
theorem zd173_25 : decode zxm173.2.1 25 = .ok (.iload_n 2, 1) := by decide +kernel
theorem zd173_26 : decode zxm173.2.1 26 = .ok (.iaload, 1) := by decide +kernel
theorem zd173_27 : decode zxm173.2.1 27 = .ok (.if_icmp .ne 5, 3) := by decide +kernel
theorem zd173_30 : decode zxm173.2.1 30 = .ok (.iconst 1, 1) := by decide +kernel
theorem zd173_31 : decode zxm173.2.1 31 = .ok (.ireturn, 1) := by decide +kernel
theorem zd173_32 : decode zxm173.2.1 32 = .ok (.iinc 3 1, 3) := by decide +kernel
theorem zd173_35 : decode zxm173.2.1 35 = .ok (.goto (-33), 3) := by decide +kernel
theorem zd173_38 : decode zxm173.2.1 38 = .ok (.iconst 0, 1) := by decide +kernel
theorem zd173_39 : decode zxm173.2.1 39 = .ok (.ireturn, 1) := by decide +kernel
theorem zt_Pilot_isBroughtByLower {x2 : Int} {f0 : Int} {g0 : (Int → Int)} {o : Int} (h : zf_Pilot_isBroughtByLower x2 f0 g0 = some o) : zv_Fn z_TB z_cl z_KX zy_Pilot_isBroughtByLower zxm173 (1, 60) [.inr 0, .inr 1, .inl x2] [.inl f0] [g0] (some o) [.inl f0] [g0] := zv_meth (K := (z_KF6, z_KC6, z_KL6, z_KT6, [], [], [], none)) (FT := z_FT) (MT := z_MT) (n := 3) zxp173 (z_ks6 _ (fun _ h => List.mem_cons_of_mem _ h) _ _ _ _ (fun j r h _ => by cases h)) (fun _ _ => zs_KX_p) zyw_Pilot_isBroughtByLower (fun va F G h => by obtain ⟨rfl, _⟩ := h; rfl) (fun va F G h => by obtain ⟨rfl, _⟩ := h; rfl) rfl fun good va F G hB hret hvret hP => by
  obtain ⟨rfl, rfl, rfl⟩ := hP
  have l0 : ∀ (n : Nat) (x2 : Int) (x3 : Int) (q : ((Unit) ⊕ (Int))), zf_Pilot_isBroughtByLower_l0 x2 f0 g0 n x3 = some q → (Sum.elim (fun e : Unit => good 38 [.inr 1000, .inr 1000, .inr 1000, .inr 1000] [] [.inl f0] [g0]) (fun w : Int => w = o) q) → good 2 [.inr 0, .inr 1, .inl x2, .inl x3] [] [.inl f0] [g0] := by
    intro n
    induction n with
    | zero => intro x2 x3 q h; exact absurd (show none = some q from h) (fun h => by cases h)
    | succ n ih =>
      intro x2 x3 q h hK
      replace h : zf_Pilot_isBroughtByLower_l0_b x2 f0 g0 (zf_Pilot_isBroughtByLower_l0 x2 f0 g0 n) x3 = some q := h
      unfold zf_Pilot_isBroughtByLower_l0_b at h
      refine zv_ild hB zd173_2 rfl rfl ?_
      refine zv_ild hB zd173_3 rfl rfl ?_
      refine zv_cge hB zd173_4 rfl (fun hc1 => ?_) (fun hc1 => ?_)
      · rw [if_neg (Int.not_lt.mpr hc1)] at h
        have hq := Option.some.inj h
        subst hq
        refine zv_wk hB (L' := [.inr 1000, .inr 1000, .inr 1000, .inr 1000]) (F' := [.inl f0]) ⟨fun (h : zv_is (.inr 1000)) => (Nat.lt_irrefl 1000 h).elim, fun (h : zv_is (.inr 1000)) => (Nat.lt_irrefl 1000 h).elim, fun (h : zv_is (.inr 1000)) => (Nat.lt_irrefl 1000 h).elim, fun (h : zv_is (.inr 1000)) => (Nat.lt_irrefl 1000 h).elim, trivial⟩ ⟨fun _ => rfl, trivial⟩ ?_
        exact hK
      · rw [if_pos hc1] at h
        refine zv_ald hB zd173_7 rfl rfl rfl ?_
        refine zv_ild hB zd173_8 rfl rfl ?_
        obtain ⟨r2, hr2, h⟩ := zi_bind h
        refine zv_cv hB (zv_emq (va2 := [.inr 1, .inl x3]) (F := [.inl f0]) (F' := [.inl f0]) (G := [g0]) (G' := [g0]) (ρ := [1]) (φ := [0]) (ψ := []) [some 0] [none] zyw_Sky_hasStar zyw_Pilot_isBroughtByLower zye_Pilot_isBroughtByLower (by decide +kernel) (zt_Sky_hasStar hr2) ⟨⟨_, rfl, fun _ => rfl⟩, trivial⟩ trivial rfl rfl rfl rfl rfl rfl rfl) zd173_9 zxt18 rfl (by decide) (by decide) rfl ?_
        refine zv_zeq hB zd173_12 rfl (fun hc3 => ?_) (fun hc3 => ?_)
        · rw [if_pos hc3] at h
          refine zv_iincw hB zd173_32 rfl rfl ?_
          refine zv_goto hB zd173_35 rfl ?_
          exact ih _ _ q h hK
        · rw [if_neg hc3] at h
          refine zv_ald hB zd173_15 rfl rfl rfl ?_
          refine zv_getr hB zd173_16 rfl ?_
          refine zv_ild hB zd173_19 rfl rfl ?_
          obtain ⟨c4, h⟩ := zi_if h
          refine zv_iald hB zd173_20 rfl rfl (zi_ix_ok c4).1 (zi_ix_ok c4).2 (fun _ _ => ?_)
          refine zv_ald hB zd173_21 rfl rfl rfl ?_
          refine zv_getr hB zd173_22 rfl ?_
          refine zv_ild hB zd173_25 rfl rfl ?_
          obtain ⟨c5, h⟩ := zi_if h
          refine zv_iald hB zd173_26 rfl rfl (zi_ix_ok c5).1 (zi_ix_ok c5).2 (fun _ _ => ?_)
          refine zv_cne hB zd173_27 rfl (fun hc6 => ?_) (fun hc6 => ?_)
          · rw [if_neg hc6] at h
            refine zv_iincw hB zd173_32 rfl rfl ?_
            refine zv_goto hB zd173_35 rfl ?_
            exact ih _ _ q h hK
          · rw [if_pos hc6] at h
            refine zv_con hB zd173_30 rfl ?_
            have hw : 1 = o := zi_rk (Option.some.inj h) hK
            subst hw
            exact hret _ _ _ _ _ zd173_31 (by constructor <;> decide) ⟨rfl, rfl, rfl⟩
  unfold zf_Pilot_isBroughtByLower at h
  refine zv_con hB zd173_0 rfl ?_
  refine zv_ist hB zd173_1 rfl rfl rfl ?_
  obtain ⟨q7, hq7, h⟩ := zi_bind h
  refine l0 _ _ _ q7 hq7 ?_
  rcases q7 with e8 | w9
  · replace h := zi_sl h
    show good 38 [.inr 1000, .inr 1000, .inr 1000, .inr 1000] [] [.inl f0] [g0]
    refine zv_con hB zd173_38 rfl ?_
    have hw := Option.some.inj h
    subst hw
    exact hret _ _ _ _ _ zd173_39 (by constructor <;> decide) ⟨rfl, rfl, rfl⟩
  · exact Option.some.inj h
/-! Pilot_endFirstLegs (LStarTales$Sky;I)V -/
-- names: 0 Pilot('arg', 0), 1 Sky('arg', 1), 2 (0, 24)(0, 9, 4), 3 (0, 264)(0, 9, 5), 4 (0, 264)(0, 9, 6), 5 (0, 264)(0, 9, 7)
-- fields: f0 = 1.told_, f1 = 0.legs_; arrays: g0 = 2, g1 = 3, g2 = 4, g3 = 5; out: [('f', 1), ('g', 1), ('g', 2), ('g', 3)]
abbrev zy_Pilot_endFirstLegs : zNL := (6, [(0, 9), (1, 1)], [(1, 1, 0, 0), (0, 9, 9, 1)], [(0, 9, 4, 2), (0, 9, 5, 3), (0, 9, 6, 4), (0, 9, 7, 5)], [(2, 0, 24, 0), (3, 0, 264, 1), (4, 0, 264, 2), (5, 0, 264, 3)])
theorem zyw_Pilot_endFirstLegs : zv_wf zy_Pilot_endFirstLegs = true := by decide +kernel
theorem zye_Pilot_endFirstLegs : zv_ek2 zy_Pilot_endFirstLegs = true := by decide +kernel
def zf_Pilot_endFirstLegs_l0_b (x2 : Int) (f0 : Int) (g0 : (Int → Int)) (rec : Int → Int → (Int → Int) → (Int → Int) → (Int → Int) → Option (Int × (Int → Int) × (Int → Int) × (Int → Int))) (x3 : Int) (f1 : Int) (g1 : (Int → Int)) (g2 : (Int → Int)) (g3 : (Int → Int)) : Option (Int × (Int → Int) × (Int → Int) × (Int → Int)) := if x3 < 24 then ((zf_Sky_hasStar x3 f0).bind fun r2 => (if r2 = 0 then (rec (zi_w (x3 + 1)) f1 g1 g2 g3) else ((zf_Pilot_isBroughtByLower x3 f0 g0).bind fun r4 => (if r4 = 0 then (if f1 < 264 then (cond (zi_ix f1 264) (cond (zi_ix x3 24) (rec (zi_w (x3 + 1)) (zi_w (f1 + 1)) (zv_up g1 f1 x3) (zv_up g2 f1 x2) (zv_up g3 f1 (g0 x3))) none) none) else (rec (zi_w (x3 + 1)) f1 g1 g2 g3)) else (rec (zi_w (x3 + 1)) f1 g1 g2 g3))))) else (some (f1, g1, g2, g3))
def zf_Pilot_endFirstLegs_l0 (x2 : Int) (f0 : Int) (g0 : (Int → Int)) : Nat → Int → Int → (Int → Int) → (Int → Int) → (Int → Int) → Option (Int × (Int → Int) × (Int → Int) × (Int → Int))
  | 0, _, _, _, _, _ => none
  | n + 1, x3, f1, g1, g2, g3 => zf_Pilot_endFirstLegs_l0_b x2 f0 g0 (zf_Pilot_endFirstLegs_l0 x2 f0 g0 n) x3 f1 g1 g2 g3
def zf_Pilot_endFirstLegs (x2 : Int) (f0 : Int) (f1 : Int) (g0 : (Int → Int)) (g1 : (Int → Int)) (g2 : (Int → Int)) (g3 : (Int → Int)) : Option (Int × (Int → Int) × (Int → Int) × (Int → Int)) := (zf_Pilot_endFirstLegs_l0 x2 f0 g0 zi_fu 0 f1 g1 g2 g3).bind fun q9 => (some (q9.1, q9.2.1, q9.2.2.1, q9.2.2.2))
theorem zd172_0 : decode zxm172.2.1 0 = .ok (.iconst 0, 1) := by decide +kernel
theorem zd172_1 : decode zxm172.2.1 1 = .ok (.istore_n 3, 1) := by decide +kernel
theorem zd172_2 : decode zxm172.2.1 2 = .ok (.iload_n 3, 1) := by decide +kernel
theorem zd172_3 : decode zxm172.2.1 3 = .ok (.bipush 24, 2) := by decide +kernel
theorem zd172_5 : decode zxm172.2.1 5 = .ok (.if_icmp .ge 81, 3) := by decide +kernel
theorem zd172_8 : decode zxm172.2.1 8 = .ok (.aload_n 1, 1) := by decide +kernel
theorem zd172_9 : decode zxm172.2.1 9 = .ok (.iload_n 3, 1) := by decide +kernel
theorem zd172_10 : decode zxm172.2.1 10 = .ok (.invokevirtual 120, 3) := by decide +kernel
theorem zd172_13 : decode zxm172.2.1 13 = .ok (.ifCond .eq 67, 3) := by decide +kernel
theorem zd172_16 : decode zxm172.2.1 16 = .ok (.aload_n 0, 1) := by decide +kernel
theorem zd172_17 : decode zxm172.2.1 17 = .ok (.aload_n 1, 1) := by decide +kernel
theorem zd172_18 : decode zxm172.2.1 18 = .ok (.iload_n 3, 1) := by decide +kernel
theorem zd172_19 : decode zxm172.2.1 19 = .ok (.invokevirtual 154, 3) := by decide +kernel
theorem zd172_22 : decode zxm172.2.1 22 = .ok (.ifCond .ne 58, 3) := by decide +kernel
theorem zd172_25 : decode zxm172.2.1 25 = .ok (.aload_n 0, 1) := by decide +kernel
theorem zd172_26 : decode zxm172.2.1 26 = .ok (.getfield 40, 3) := by decide +kernel
theorem zd172_29 : decode zxm172.2.1 29 = .ok (.sipush 264, 3) := by decide +kernel
theorem zd172_32 : decode zxm172.2.1 32 = .ok (.if_icmp .ge 48, 3) := by decide +kernel
theorem zd172_35 : decode zxm172.2.1 35 = .ok (.aload_n 0, 1) := by decide +kernel
theorem zd172_36 : decode zxm172.2.1 36 = .ok (.getfield 28, 3) := by decide +kernel
theorem zd172_39 : decode zxm172.2.1 39 = .ok (.aload_n 0, 1) := by decide +kernel
theorem zd172_40 : decode zxm172.2.1 40 = .ok (.getfield 40, 3) := by decide +kernel
theorem zd172_43 : decode zxm172.2.1 43 = .ok (.iload_n 3, 1) := by decide +kernel
theorem zd172_44 : decode zxm172.2.1 44 = .ok (.iastore, 1) := by decide +kernel
theorem zd172_45 : decode zxm172.2.1 45 = .ok (.aload_n 0, 1) := by decide +kernel
theorem zd172_46 : decode zxm172.2.1 46 = .ok (.getfield 31, 3) := by decide +kernel
theorem zd172_49 : decode zxm172.2.1 49 = .ok (.aload_n 0, 1) := by decide +kernel
theorem zd172_50 : decode zxm172.2.1 50 = .ok (.getfield 40, 3) := by decide +kernel
theorem zd172_53 : decode zxm172.2.1 53 = .ok (.iload_n 2, 1) := by decide +kernel
theorem zd172_54 : decode zxm172.2.1 54 = .ok (.iastore, 1) := by decide +kernel
theorem zd172_55 : decode zxm172.2.1 55 = .ok (.aload_n 0, 1) := by decide +kernel
theorem zd172_56 : decode zxm172.2.1 56 = .ok (.getfield 34, 3) := by decide +kernel
theorem zd172_59 : decode zxm172.2.1 59 = .ok (.aload_n 0, 1) := by decide +kernel
theorem zd172_60 : decode zxm172.2.1 60 = .ok (.getfield 40, 3) := by decide +kernel
theorem zd172_63 : decode zxm172.2.1 63 = .ok (.aload_n 0, 1) := by decide +kernel
theorem zd172_64 : decode zxm172.2.1 64 = .ok (.getfield 24, 3) := by decide +kernel
theorem zd172_67 : decode zxm172.2.1 67 = .ok (.iload_n 3, 1) := by decide +kernel
theorem zd172_68 : decode zxm172.2.1 68 = .ok (.iaload, 1) := by decide +kernel
theorem zd172_69 : decode zxm172.2.1 69 = .ok (.iastore, 1) := by decide +kernel
theorem zd172_70 : decode zxm172.2.1 70 = .ok (.aload_n 0, 1) := by decide +kernel
theorem zd172_71 : decode zxm172.2.1 71 = .ok (.dup, 1) := by decide +kernel
theorem zd172_72 : decode zxm172.2.1 72 = .ok (.getfield 40, 3) := by decide +kernel
theorem zd172_75 : decode zxm172.2.1 75 = .ok (.iconst 1, 1) := by decide +kernel
theorem zd172_76 : decode zxm172.2.1 76 = .ok (.iadd, 1) := by decide +kernel
theorem zd172_77 : decode zxm172.2.1 77 = .ok (.putfield 40, 3) := by decide +kernel
theorem zd172_80 : decode zxm172.2.1 80 = .ok (.iinc 3 1, 3) := by decide +kernel
theorem zd172_83 : decode zxm172.2.1 83 = .ok (.goto (-81), 3) := by decide +kernel
theorem zd172_86 : decode zxm172.2.1 86 = .ok (.return_, 1) := by decide +kernel
theorem zt_Pilot_endFirstLegs {x2 : Int} {f0 : Int} {f1 : Int} {g0 : (Int → Int)} {g1 : (Int → Int)} {g2 : (Int → Int)} {g3 : (Int → Int)} {o : Int × (Int → Int) × (Int → Int) × (Int → Int)} (h : zf_Pilot_endFirstLegs x2 f0 f1 g0 g1 g2 g3 = some o) : zv_Fn z_TB z_cl z_KX zy_Pilot_endFirstLegs zxm172 (2, 120) [.inr 0, .inr 1, .inl x2] [.inl f0, .inl f1] [g0, g1, g2, g3] none [.inl f0, .inl o.1] [g0, o.2.1, o.2.2.1, o.2.2.2] := zv_meth (K := (z_KF6, z_KC6, z_KL6, z_KT6, [], [], [], none)) (FT := z_FT) (MT := z_MT) (n := 3) zxp172 (z_ks6 _ (fun _ h => List.mem_cons_of_mem _ h) _ _ _ _ (fun j r h _ => by cases h)) (fun _ _ => zs_KX_p) zyw_Pilot_endFirstLegs (fun va F G h => by obtain ⟨rfl, _⟩ := h; rfl) (fun va F G h => by obtain ⟨rfl, _⟩ := h; rfl) rfl fun good va F G hB hret hvret hP => by
  obtain ⟨rfl, rfl, rfl⟩ := hP
  have l0 : ∀ (n : Nat) (x2 : Int) (x3 : Int) (f1 : Int) (g1 : (Int → Int)) (g2 : (Int → Int)) (g3 : (Int → Int)) (q : Int × (Int → Int) × (Int → Int) × (Int → Int)), zf_Pilot_endFirstLegs_l0 x2 f0 g0 n x3 f1 g1 g2 g3 = some q → (good 86 [.inr 1000, .inr 1000, .inr 1000, .inr 1000] [] [.inl f0, .inl q.1] [g0, q.2.1, q.2.2.1, q.2.2.2]) → good 2 [.inr 0, .inr 1, .inl x2, .inl x3] [] [.inl f0, .inl f1] [g0, g1, g2, g3] := by
    intro n
    induction n with
    | zero => intro x2 x3 f1 g1 g2 g3 q h; exact absurd (show none = some q from h) (fun h => by cases h)
    | succ n ih =>
      intro x2 x3 f1 g1 g2 g3 q h hK
      replace h : zf_Pilot_endFirstLegs_l0_b x2 f0 g0 (zf_Pilot_endFirstLegs_l0 x2 f0 g0 n) x3 f1 g1 g2 g3 = some q := h
      unfold zf_Pilot_endFirstLegs_l0_b at h
      refine zv_ild hB zd172_2 rfl rfl ?_
      refine zv_con hB zd172_3 rfl ?_
      refine zv_cge hB zd172_5 rfl (fun hc1 => ?_) (fun hc1 => ?_)
      · rw [if_neg (Int.not_lt.mpr hc1)] at h
        have hq := Option.some.inj h
        subst hq
        refine zv_wk hB (L' := [.inr 1000, .inr 1000, .inr 1000, .inr 1000]) (F' := [.inl f0, .inl f1]) ⟨fun (h : zv_is (.inr 1000)) => (Nat.lt_irrefl 1000 h).elim, fun (h : zv_is (.inr 1000)) => (Nat.lt_irrefl 1000 h).elim, fun (h : zv_is (.inr 1000)) => (Nat.lt_irrefl 1000 h).elim, fun (h : zv_is (.inr 1000)) => (Nat.lt_irrefl 1000 h).elim, trivial⟩ ⟨fun _ => rfl, fun _ => rfl, trivial⟩ ?_
        exact hK
      · rw [if_pos hc1] at h
        refine zv_ald hB zd172_8 rfl rfl rfl ?_
        refine zv_ild hB zd172_9 rfl rfl ?_
        obtain ⟨r2, hr2, h⟩ := zi_bind h
        refine zv_cv hB (zv_emq (va2 := [.inr 1, .inl x3]) (F := [.inl f0, .inl f1]) (F' := [.inl f0, .inl f1]) (G := [g0, g1, g2, g3]) (G' := [g0, g1, g2, g3]) (ρ := [1]) (φ := [0]) (ψ := []) [some 0, none] [none, none, none, none] zyw_Sky_hasStar zyw_Pilot_endFirstLegs zye_Pilot_endFirstLegs (by decide +kernel) (zt_Sky_hasStar hr2) ⟨⟨_, rfl, fun _ => rfl⟩, trivial⟩ trivial rfl rfl rfl rfl rfl rfl rfl) zd172_10 zxt18 rfl (by decide) (by decide) rfl ?_
        refine zv_zeq hB zd172_13 rfl (fun hc3 => ?_) (fun hc3 => ?_)
        · rw [if_pos hc3] at h
          refine zv_iincw hB zd172_80 rfl rfl ?_
          refine zv_goto hB zd172_83 rfl ?_
          exact ih _ _ _ _ _ _ q h hK
        · rw [if_neg hc3] at h
          refine zv_ald hB zd172_16 rfl rfl rfl ?_
          refine zv_ald hB zd172_17 rfl rfl rfl ?_
          refine zv_ild hB zd172_18 rfl rfl ?_
          obtain ⟨r4, hr4, h⟩ := zi_bind h
          refine zv_cv hB (zv_emq (va2 := [.inr 0, .inr 1, .inl x3]) (F := [.inl f0, .inl f1]) (F' := [.inl f0, .inl f1]) (G := [g0, g1, g2, g3]) (G' := [g0, g1, g2, g3]) (ρ := [0, 1, 2]) (φ := [0]) (ψ := [0]) [some 0, none] [some 0, none, none, none] zyw_Pilot_isBroughtByLower zyw_Pilot_endFirstLegs zye_Pilot_endFirstLegs (by decide +kernel) (zt_Pilot_isBroughtByLower hr4) ⟨⟨_, rfl, fun _ => rfl⟩, trivial⟩ ⟨rfl, trivial⟩ rfl rfl rfl rfl rfl rfl rfl) zd172_19 zxt173 rfl (by decide) (by decide) rfl ?_
          refine zv_zne hB zd172_22 rfl (fun hc5 => ?_) (fun hc5 => ?_)
          · rw [if_neg hc5] at h
            refine zv_iincw hB zd172_80 rfl rfl ?_
            refine zv_goto hB zd172_83 rfl ?_
            exact ih _ _ _ _ _ _ q h hK
          · rw [if_pos hc5] at h
            refine zv_ald hB zd172_25 rfl rfl rfl ?_
            refine zv_getf hB zd172_26 rfl rfl (fun _ _ => ?_)
            refine zv_con hB zd172_29 rfl ?_
            refine zv_cge hB zd172_32 rfl (fun hc6 => ?_) (fun hc6 => ?_)
            · rw [if_neg (Int.not_lt.mpr hc6)] at h
              refine zv_iincw hB zd172_80 rfl rfl ?_
              refine zv_goto hB zd172_83 rfl ?_
              exact ih _ _ _ _ _ _ q h hK
            · rw [if_pos hc6] at h
              refine zv_ald hB zd172_35 rfl rfl rfl ?_
              refine zv_getr hB zd172_36 rfl ?_
              refine zv_ald hB zd172_39 rfl rfl rfl ?_
              refine zv_getf hB zd172_40 rfl rfl (fun _ _ => ?_)
              refine zv_ild hB zd172_43 rfl rfl ?_
              obtain ⟨c7, h⟩ := zi_if h
              refine zv_iast hB zd172_44 rfl rfl (zi_ix_ok c7).1 (zi_ix_ok c7).2 ?_
              refine zv_ald hB zd172_45 rfl rfl rfl ?_
              refine zv_getr hB zd172_46 rfl ?_
              refine zv_ald hB zd172_49 rfl rfl rfl ?_
              refine zv_getf hB zd172_50 rfl rfl (fun _ _ => ?_)
              refine zv_ild hB zd172_53 rfl rfl ?_
              refine zv_iast hB zd172_54 rfl rfl (zi_ix_ok c7).1 (zi_ix_ok c7).2 ?_
              refine zv_ald hB zd172_55 rfl rfl rfl ?_
              refine zv_getr hB zd172_56 rfl ?_
              refine zv_ald hB zd172_59 rfl rfl rfl ?_
              refine zv_getf hB zd172_60 rfl rfl (fun _ _ => ?_)
              refine zv_ald hB zd172_63 rfl rfl rfl ?_
              refine zv_getr hB zd172_64 rfl ?_
              refine zv_ild hB zd172_67 rfl rfl ?_
              obtain ⟨c8, h⟩ := zi_if h
              refine zv_iald hB zd172_68 rfl rfl (zi_ix_ok c8).1 (zi_ix_ok c8).2 (fun _ _ => ?_)
              refine zv_iast hB zd172_69 rfl rfl (zi_ix_ok c7).1 (zi_ix_ok c7).2 ?_
              refine zv_ald hB zd172_70 rfl rfl rfl ?_
              refine zv_dup hB zd172_71 rfl ?_
              refine zv_getf hB zd172_72 rfl rfl (fun _ _ => ?_)
              refine zv_con hB zd172_75 rfl ?_
              refine zv_addw hB zd172_76 ?_
              refine zv_putf hB zd172_77 rfl rfl (fun h => by cases h) rfl ?_
              refine zv_iincw hB zd172_80 rfl rfl ?_
              refine zv_goto hB zd172_83 rfl ?_
              exact ih _ _ _ _ _ _ q h hK
  unfold zf_Pilot_endFirstLegs at h
  refine zv_con hB zd172_0 rfl ?_
  refine zv_ist hB zd172_1 rfl rfl rfl ?_
  obtain ⟨q9, hq9, h⟩ := zi_bind h
  refine l0 _ _ _ _ _ _ _ q9 hq9 ?_
  show good 86 [.inr 1000, .inr 1000, .inr 1000, .inr 1000] [] [.inl f0, .inl q9.1] [g0, q9.2.1, q9.2.2.1, q9.2.2.2]
  have hw := Option.some.inj h
  subst hw
  exact hvret _ _ _ _ zd172_86 trivial ⟨rfl, rfl, rfl⟩
end
section
/-! Methods as functions, and that they do what these do. -/
/-! Pilot_followSecond (LStarTales$View;LStarTales$Sea;III)V -/
-- names: 0 Pilot('arg', 0), 1 View('arg', 1), 2 Sea('arg', 2), 3 (0, 288)(0, 9, 11), 4 (0, 264)(0, 9, 6), 5 (0, 264)(0, 9, 8), 6 (0, 264)(0, 9, 5), 7 Law(1, 7, 1), 8 (0, 13)(7, 4, 12), 9 Sky(1, 7, 0), 10 (0, 24)(9, 1, 1), 11 (0, 24)(9, 1, 2), 12 (0, 24)(9, 1, 3), 13 (0, 14)(7, 4, 3), 14 (0, 14)(7, 4, 5), 15 (0, 14)(7, 4, 6), 16 (0, 200)(7, 4, 0), 17 (0, 40)(7, 4, 13), 18 (0, 200)(7, 4, 1), 19 (0, 12)(2, 2, 0), 20 (0, 264)(0, 9, 7), 21 (0, 24)(9, 1, 4), 22 (0, 24)(9, 1, 5), 23 (0, 24)(1, 7, 8)
-- fields: f0 = 0.best_, f1 = 0.legs_, f2 = 1.law_, f3 = 1.sky_, f4 = 1.x_, f5 = 1.y_, f6 = 9.hour_, f7 = 9.night_, f8 = 9.told_, f9 = 9.sightColumns_, f10 = 9.sightRows_, f11 = 9.clouds_, f12 = 7.tellsSeen_, f13 = 1.starsAsked_, f14 = 1.starsHold_, f15 = 7.clauses_, f16 = 7.answer_, f17 = 7.seenByPlace_; arrays: g0 = 3, g1 = 4, g2 = 5, g3 = 6, g4 = 8, g5 = 10, g6 = 11, g7 = 12, g8 = 13, g9 = 14, g10 = 15, g11 = 16, g12 = 17, g13 = 18, g14 = 19, g15 = 20, g16 = 21, g17 = 22, g18 = 23; out: [('f', 0), ('f', 4), ('f', 5), ('f', 6), ('f', 7), ('f', 13), ('f', 14), ('f', 16), ('g', 0), ('g', 2), ('g', 4), ('g', 5), ('g', 6), ('g', 12), ('g', 18)]
abbrev zy_Pilot_followSecond : zNL := (24, [(0, 9), (1, 7), (2, 2), (7, 4), (9, 1)], [(0, 9, 10, 0), (0, 9, 9, 1), (1, 7, 1, 2), (1, 7, 0, 3), (1, 7, 2, 4), (1, 7, 3, 5), (9, 1, 6, 6), (9, 1, 7, 7), (9, 1, 0, 8), (9, 1, 9, 9), (9, 1, 10, 10), (9, 1, 8, 11), (7, 4, 8, 12), (1, 7, 6, 13), (1, 7, 7, 14), (7, 4, 7, 15), (7, 4, 14, 16), (7, 4, 10, 17)], [(0, 9, 11, 3), (0, 9, 6, 4), (0, 9, 8, 5), (0, 9, 5, 6), (7, 4, 12, 8), (9, 1, 1, 10), (9, 1, 2, 11), (9, 1, 3, 12), (7, 4, 3, 13), (7, 4, 5, 14), (7, 4, 6, 15), (7, 4, 0, 16), (7, 4, 13, 17), (7, 4, 1, 18), (2, 2, 0, 19), (0, 9, 7, 20), (9, 1, 4, 21), (9, 1, 5, 22), (1, 7, 8, 23)], [(3, 0, 288, 0), (4, 0, 264, 1), (5, 0, 264, 2), (6, 0, 264, 3), (8, 0, 13, 4), (10, 0, 24, 5), (11, 0, 24, 6), (12, 0, 24, 7), (13, 0, 14, 8), (14, 0, 14, 9), (15, 0, 14, 10), (16, 0, 200, 11), (17, 0, 40, 12), (18, 0, 200, 13), (19, 0, 12, 14), (20, 0, 264, 15), (21, 0, 24, 16), (22, 0, 24, 17), (23, 0, 24, 18)])
theorem zyw_Pilot_followSecond : zv_wf zy_Pilot_followSecond = true := by decide +kernel
theorem zye_Pilot_followSecond : zv_ek2 zy_Pilot_followSecond = true := by decide +kernel
def zf_Pilot_followSecond_l1_b (x3 : Int) (x4 : Int) (x6 : Int) (f1 : Int) (f6 : Int) (f7 : Int) (f8 : Int) (f9 : Int) (f10 : Int) (f11 : Int) (f12 : Int) (f15 : Int) (f17 : Int) (g1 : (Int → Int)) (g3 : (Int → Int)) (g5 : (Int → Int)) (g6 : (Int → Int)) (g7 : (Int → Int)) (g8 : (Int → Int)) (g9 : (Int → Int)) (g10 : (Int → Int)) (g11 : (Int → Int)) (g13 : (Int → Int)) (g14 : (Int → Int)) (g15 : (Int → Int)) (rec : Int → Int → Int → Int → Int → Int → Int → (Int → Int) → (Int → Int) → (Int → Int) → (Int → Int) → Option (Int × Int × Int × Int × Int × Int × (Int → Int) × (Int → Int) × (Int → Int) × (Int → Int))) (x7 : Int) (f0 : Int) (f4 : Int) (f5 : Int) (f13 : Int) (f14 : Int) (f16 : Int) (g0 : (Int → Int)) (g2 : (Int → Int)) (g4 : (Int → Int)) (g12 : (Int → Int)) : Option (Int × Int × Int × Int × Int × Int × (Int → Int) × (Int → Int) × (Int → Int) × (Int → Int)) := if x7 < f1 then (cond (zi_ix x7 264) (if (g1 x7) < x6 then (if (g1 x7) = (zi_w (x6 - 1)) then (cond (zi_ix (g15 x7) 288) (if (g0 (g15 x7)) = (-1) then ((zf_Pilot_step (g15 x7) x3 f4 f5 f6 f7 f8 f9 f10 f11 f12 f13 f14 f15 f16 f17 g4 g5 g6 g7 g8 g9 g10 g11 g12 g13 g14).bind fun r22 => (if ((zv_up g2 x7 ((zv_up g0 (g15 x7) r22.1) (g15 x7))) x7) = x4 then (if f0 = (-1) then (rec (zi_w (x7 + 1)) (zi_w ((zi_w ((zi_w (x6 * 6912)) + (zi_w ((zi_w ((zi_w ((g3 x7) * 12)) + (g1 x7))) * 24)))) + x3)) r22.2.1 r22.2.2.1 r22.2.2.2.1 r22.2.2.2.2.1 r22.2.2.2.2.2.1 (zv_up g0 (g15 x7) r22.1) (zv_up g2 x7 ((zv_up g0 (g15 x7) r22.1) (g15 x7))) r22.2.2.2.2.2.2.1 r22.2.2.2.2.2.2.2) else ((zf_Math_min f0 (zi_w ((zi_w ((zi_w (x6 * 6912)) + (zi_w ((zi_w ((zi_w ((g3 x7) * 12)) + (g1 x7))) * 24)))) + x3))).bind fun r25 => (rec (zi_w (x7 + 1)) r25 r22.2.1 r22.2.2.1 r22.2.2.2.1 r22.2.2.2.2.1 r22.2.2.2.2.2.1 (zv_up g0 (g15 x7) r22.1) (zv_up g2 x7 ((zv_up g0 (g15 x7) r22.1) (g15 x7))) r22.2.2.2.2.2.2.1 r22.2.2.2.2.2.2.2))) else (rec (zi_w (x7 + 1)) f0 r22.2.1 r22.2.2.1 r22.2.2.2.1 r22.2.2.2.2.1 r22.2.2.2.2.2.1 (zv_up g0 (g15 x7) r22.1) (zv_up g2 x7 ((zv_up g0 (g15 x7) r22.1) (g15 x7))) r22.2.2.2.2.2.2.1 r22.2.2.2.2.2.2.2))) else (if ((zv_up g2 x7 (g0 (g15 x7))) x7) = x4 then (if f0 = (-1) then (rec (zi_w (x7 + 1)) (zi_w ((zi_w ((zi_w (x6 * 6912)) + (zi_w ((zi_w ((zi_w ((g3 x7) * 12)) + (g1 x7))) * 24)))) + x3)) f4 f5 f13 f14 f16 g0 (zv_up g2 x7 (g0 (g15 x7))) g4 g12) else ((zf_Math_min f0 (zi_w ((zi_w ((zi_w (x6 * 6912)) + (zi_w ((zi_w ((zi_w ((g3 x7) * 12)) + (g1 x7))) * 24)))) + x3))).bind fun r21 => (rec (zi_w (x7 + 1)) r21 f4 f5 f13 f14 f16 g0 (zv_up g2 x7 (g0 (g15 x7))) g4 g12))) else (rec (zi_w (x7 + 1)) f0 f4 f5 f13 f14 f16 g0 (zv_up g2 x7 (g0 (g15 x7))) g4 g12))) none) else (cond (zi_ix (g2 x7) 288) (if (g0 (g2 x7)) = (-1) then ((zf_Pilot_step (g2 x7) x3 f4 f5 f6 f7 f8 f9 f10 f11 f12 f13 f14 f15 f16 f17 g4 g5 g6 g7 g8 g9 g10 g11 g12 g13 g14).bind fun r13 => (if ((zv_up g2 x7 ((zv_up g0 (g2 x7) r13.1) (g2 x7))) x7) = x4 then (if f0 = (-1) then (rec (zi_w (x7 + 1)) (zi_w ((zi_w ((zi_w (x6 * 6912)) + (zi_w ((zi_w ((zi_w ((g3 x7) * 12)) + (g1 x7))) * 24)))) + x3)) r13.2.1 r13.2.2.1 r13.2.2.2.1 r13.2.2.2.2.1 r13.2.2.2.2.2.1 (zv_up g0 (g2 x7) r13.1) (zv_up g2 x7 ((zv_up g0 (g2 x7) r13.1) (g2 x7))) r13.2.2.2.2.2.2.1 r13.2.2.2.2.2.2.2) else ((zf_Math_min f0 (zi_w ((zi_w ((zi_w (x6 * 6912)) + (zi_w ((zi_w ((zi_w ((g3 x7) * 12)) + (g1 x7))) * 24)))) + x3))).bind fun r16 => (rec (zi_w (x7 + 1)) r16 r13.2.1 r13.2.2.1 r13.2.2.2.1 r13.2.2.2.2.1 r13.2.2.2.2.2.1 (zv_up g0 (g2 x7) r13.1) (zv_up g2 x7 ((zv_up g0 (g2 x7) r13.1) (g2 x7))) r13.2.2.2.2.2.2.1 r13.2.2.2.2.2.2.2))) else (rec (zi_w (x7 + 1)) f0 r13.2.1 r13.2.2.1 r13.2.2.2.1 r13.2.2.2.2.1 r13.2.2.2.2.2.1 (zv_up g0 (g2 x7) r13.1) (zv_up g2 x7 ((zv_up g0 (g2 x7) r13.1) (g2 x7))) r13.2.2.2.2.2.2.1 r13.2.2.2.2.2.2.2))) else (if ((zv_up g2 x7 (g0 (g2 x7))) x7) = x4 then (if f0 = (-1) then (rec (zi_w (x7 + 1)) (zi_w ((zi_w ((zi_w (x6 * 6912)) + (zi_w ((zi_w ((zi_w ((g3 x7) * 12)) + (g1 x7))) * 24)))) + x3)) f4 f5 f13 f14 f16 g0 (zv_up g2 x7 (g0 (g2 x7))) g4 g12) else ((zf_Math_min f0 (zi_w ((zi_w ((zi_w (x6 * 6912)) + (zi_w ((zi_w ((zi_w ((g3 x7) * 12)) + (g1 x7))) * 24)))) + x3))).bind fun r12 => (rec (zi_w (x7 + 1)) r12 f4 f5 f13 f14 f16 g0 (zv_up g2 x7 (g0 (g2 x7))) g4 g12))) else (rec (zi_w (x7 + 1)) f0 f4 f5 f13 f14 f16 g0 (zv_up g2 x7 (g0 (g2 x7))) g4 g12))) none)) else (some (f0, f4, f5, f13, f14, f16, g0, g2, g4, g12))) none) else (some (f0, f4, f5, f13, f14, f16, g0, g2, g4, g12))
def zf_Pilot_followSecond_l1 (x3 : Int) (x4 : Int) (x6 : Int) (f1 : Int) (f6 : Int) (f7 : Int) (f8 : Int) (f9 : Int) (f10 : Int) (f11 : Int) (f12 : Int) (f15 : Int) (f17 : Int) (g1 : (Int → Int)) (g3 : (Int → Int)) (g5 : (Int → Int)) (g6 : (Int → Int)) (g7 : (Int → Int)) (g8 : (Int → Int)) (g9 : (Int → Int)) (g10 : (Int → Int)) (g11 : (Int → Int)) (g13 : (Int → Int)) (g14 : (Int → Int)) (g15 : (Int → Int)) : Nat → Int → Int → Int → Int → Int → Int → Int → (Int → Int) → (Int → Int) → (Int → Int) → (Int → Int) → Option (Int × Int × Int × Int × Int × Int × (Int → Int) × (Int → Int) × (Int → Int) × (Int → Int))
  | 0, _, _, _, _, _, _, _, _, _, _, _ => none
  | n + 1, x7, f0, f4, f5, f13, f14, f16, g0, g2, g4, g12 => zf_Pilot_followSecond_l1_b x3 x4 x6 f1 f6 f7 f8 f9 f10 f11 f12 f15 f17 g1 g3 g5 g6 g7 g8 g9 g10 g11 g13 g14 g15 (zf_Pilot_followSecond_l1 x3 x4 x6 f1 f6 f7 f8 f9 f10 f11 f12 f15 f17 g1 g3 g5 g6 g7 g8 g9 g10 g11 g13 g14 g15 n) x7 f0 f4 f5 f13 f14 f16 g0 g2 g4 g12
def zf_Pilot_followSecond_l0_b (x3 : Int) (x4 : Int) (x5 : Int) (f1 : Int) (f8 : Int) (f9 : Int) (f10 : Int) (f11 : Int) (f12 : Int) (f15 : Int) (f17 : Int) (g1 : (Int → Int)) (g3 : (Int → Int)) (g7 : (Int → Int)) (g8 : (Int → Int)) (g9 : (Int → Int)) (g10 : (Int → Int)) (g11 : (Int → Int)) (g13 : (Int → Int)) (g14 : (Int → Int)) (g15 : (Int → Int)) (g16 : (Int → Int)) (g17 : (Int → Int)) (rec : Int → Int → Int → Int → Int → Int → Int → Int → Int → (Int → Int) → (Int → Int) → (Int → Int) → (Int → Int) → (Int → Int) → (Int → Int) → (Int → Int) → Option (Int × Int × Int × Int × Int × Int × Int × Int × (Int → Int) × (Int → Int) × (Int → Int) × (Int → Int) × (Int → Int) × (Int → Int) × (Int → Int))) (x6 : Int) (f0 : Int) (f4 : Int) (f5 : Int) (f6 : Int) (f7 : Int) (f13 : Int) (f14 : Int) (f16 : Int) (g0 : (Int → Int)) (g2 : (Int → Int)) (g4 : (Int → Int)) (g5 : (Int → Int)) (g6 : (Int → Int)) (g12 : (Int → Int)) (g18 : (Int → Int)) : Option (Int × Int × Int × Int × Int × Int × Int × Int × (Int → Int) × (Int → Int) × (Int → Int) × (Int → Int) × (Int → Int) × (Int → Int) × (Int → Int)) := if x5 < x6 then (some (f0, f4, f5, f6, f7, f13, f14, f16, g0, g2, g4, g5, g6, g12, g18)) else (if f0 = (-1) then ((zf_Arrays_fill_288 (-1) g0).bind fun r3 => ((zf_Pilot_followSecond_l1 x3 x4 x6 f1 f6 f7 f8 f9 f10 f11 f12 f15 f17 g1 g3 g5 g6 g7 g8 g9 g10 g11 g13 g14 g15 zi_fu 0 f0 f4 f5 f13 f14 f16 r3 g2 g4 g12).bind fun q26 => ((zf_Pilot_turnOnward f6 f7 q26.2.2.2.1 g5 g16 g6 g17 g18).bind fun r27 => (rec (zi_w (x6 + 1)) q26.1 q26.2.1 q26.2.2.1 r27.1 r27.2.1 r27.2.2.1 q26.2.2.2.2.1 q26.2.2.2.2.2.1 q26.2.2.2.2.2.2.1 q26.2.2.2.2.2.2.2.1 q26.2.2.2.2.2.2.2.2.1 r27.2.2.2.1 r27.2.2.2.2.1 q26.2.2.2.2.2.2.2.2.2 r27.2.2.2.2.2)))) else (if (zi_div f0 6912) < x6 then (some (f0, f4, f5, f6, f7, f13, f14, f16, g0, g2, g4, g5, g6, g12, g18)) else ((zf_Arrays_fill_288 (-1) g0).bind fun r29 => ((zf_Pilot_followSecond_l1 x3 x4 x6 f1 f6 f7 f8 f9 f10 f11 f12 f15 f17 g1 g3 g5 g6 g7 g8 g9 g10 g11 g13 g14 g15 zi_fu 0 f0 f4 f5 f13 f14 f16 r29 g2 g4 g12).bind fun q30 => ((zf_Pilot_turnOnward f6 f7 q30.2.2.2.1 g5 g16 g6 g17 g18).bind fun r31 => (rec (zi_w (x6 + 1)) q30.1 q30.2.1 q30.2.2.1 r31.1 r31.2.1 r31.2.2.1 q30.2.2.2.2.1 q30.2.2.2.2.2.1 q30.2.2.2.2.2.2.1 q30.2.2.2.2.2.2.2.1 q30.2.2.2.2.2.2.2.2.1 r31.2.2.2.1 r31.2.2.2.2.1 q30.2.2.2.2.2.2.2.2.2 r31.2.2.2.2.2))))))
def zf_Pilot_followSecond_l0 (x3 : Int) (x4 : Int) (x5 : Int) (f1 : Int) (f8 : Int) (f9 : Int) (f10 : Int) (f11 : Int) (f12 : Int) (f15 : Int) (f17 : Int) (g1 : (Int → Int)) (g3 : (Int → Int)) (g7 : (Int → Int)) (g8 : (Int → Int)) (g9 : (Int → Int)) (g10 : (Int → Int)) (g11 : (Int → Int)) (g13 : (Int → Int)) (g14 : (Int → Int)) (g15 : (Int → Int)) (g16 : (Int → Int)) (g17 : (Int → Int)) : Nat → Int → Int → Int → Int → Int → Int → Int → Int → Int → (Int → Int) → (Int → Int) → (Int → Int) → (Int → Int) → (Int → Int) → (Int → Int) → (Int → Int) → Option (Int × Int × Int × Int × Int × Int × Int × Int × (Int → Int) × (Int → Int) × (Int → Int) × (Int → Int) × (Int → Int) × (Int → Int) × (Int → Int))
  | 0, _, _, _, _, _, _, _, _, _, _, _, _, _, _, _, _ => none
  | n + 1, x6, f0, f4, f5, f6, f7, f13, f14, f16, g0, g2, g4, g5, g6, g12, g18 => zf_Pilot_followSecond_l0_b x3 x4 x5 f1 f8 f9 f10 f11 f12 f15 f17 g1 g3 g7 g8 g9 g10 g11 g13 g14 g15 g16 g17 (zf_Pilot_followSecond_l0 x3 x4 x5 f1 f8 f9 f10 f11 f12 f15 f17 g1 g3 g7 g8 g9 g10 g11 g13 g14 g15 g16 g17 n) x6 f0 f4 f5 f6 f7 f13 f14 f16 g0 g2 g4 g5 g6 g12 g18
def zf_Pilot_followSecond (x3 : Int) (x4 : Int) (x5 : Int) (f0 : Int) (f1 : Int) (f4 : Int) (f5 : Int) (f6 : Int) (f7 : Int) (f8 : Int) (f9 : Int) (f10 : Int) (f11 : Int) (f12 : Int) (f13 : Int) (f14 : Int) (f15 : Int) (f16 : Int) (f17 : Int) (g0 : (Int → Int)) (g1 : (Int → Int)) (g2 : (Int → Int)) (g3 : (Int → Int)) (g4 : (Int → Int)) (g5 : (Int → Int)) (g6 : (Int → Int)) (g7 : (Int → Int)) (g8 : (Int → Int)) (g9 : (Int → Int)) (g10 : (Int → Int)) (g11 : (Int → Int)) (g12 : (Int → Int)) (g13 : (Int → Int)) (g14 : (Int → Int)) (g15 : (Int → Int)) (g16 : (Int → Int)) (g17 : (Int → Int)) (g18 : (Int → Int)) : Option (Int × Int × Int × Int × Int × Int × Int × Int × (Int → Int) × (Int → Int) × (Int → Int) × (Int → Int) × (Int → Int) × (Int → Int) × (Int → Int)) := (zf_Pilot_followSecond_l0 x3 x4 x5 f1 f8 f9 f10 f11 f12 f15 f17 g1 g3 g7 g8 g9 g10 g11 g13 g14 g15 g16 g17 zi_fu 1 f0 f4 f5 f6 f7 f13 f14 f16 g0 g2 g4 g5 g6 g12 g18).bind fun q32 => (some (q32.1, q32.2.1, q32.2.2.1, q32.2.2.2.1, q32.2.2.2.2.1, q32.2.2.2.2.2.1, q32.2.2.2.2.2.2.1, q32.2.2.2.2.2.2.2.1, q32.2.2.2.2.2.2.2.2.1, q32.2.2.2.2.2.2.2.2.2.1, q32.2.2.2.2.2.2.2.2.2.2.1, q32.2.2.2.2.2.2.2.2.2.2.2.1, q32.2.2.2.2.2.2.2.2.2.2.2.2.1, q32.2.2.2.2.2.2.2.2.2.2.2.2.2.1, q32.2.2.2.2.2.2.2.2.2.2.2.2.2.2))
theorem zd174_0 : decode zxm174.2.1 0 = .ok (.iconst 1, 1) := by decide +kernel
theorem zd174_1 : decode zxm174.2.1 1 = .ok (.istore 6, 2) := by decide +kernel
theorem zd174_3 : decode zxm174.2.1 3 = .ok (.iload 6, 2) := by decide +kernel
theorem zd174_5 : decode zxm174.2.1 5 = .ok (.iload 5, 2) := by decide +kernel
theorem zd174_7 : decode zxm174.2.1 7 = .ok (.if_icmp .gt 217, 3) := by decide +kernel
theorem zd174_10 : decode zxm174.2.1 10 = .ok (.aload_n 0, 1) := by decide +kernel
theorem zd174_11 : decode zxm174.2.1 11 = .ok (.getfield 43, 3) := by decide +kernel
theorem zd174_14 : decode zxm174.2.1 14 = .ok (.iconst (-1), 1) := by decide +kernel
theorem zd174_15 : decode zxm174.2.1 15 = .ok (.if_icmp .eq 16, 3) := by decide +kernel
theorem zd174_18 : decode zxm174.2.1 18 = .ok (.iload 6, 2) := by decide +kernel
theorem zd174_20 : decode zxm174.2.1 20 = .ok (.aload_n 0, 1) := by decide +kernel
theorem zd174_21 : decode zxm174.2.1 21 = .ok (.getfield 43, 3) := by decide +kernel
theorem zd174_24 : decode zxm174.2.1 24 = .ok (.sipush 6912, 3) := by decide +kernel
theorem zd174_27 : decode zxm174.2.1 27 = .ok (.idiv, 1) := by decide +kernel
theorem zd174_28 : decode zxm174.2.1 28 = .ok (.if_icmp .gt 196, 3) := by decide +kernel
theorem zd174_31 : decode zxm174.2.1 31 = .ok (.aload_n 0, 1) := by decide +kernel
theorem zd174_32 : decode zxm174.2.1 32 = .ok (.getfield 46, 3) := by decide +kernel
theorem zd174_35 : decode zxm174.2.1 35 = .ok (.iconst (-1), 1) := by decide +kernel
theorem zd174_36 : decode zxm174.2.1 36 = .ok (.invokestatic 110, 3) := by decide +kernel
theorem zd174_39 : decode zxm174.2.1 39 = .ok (.iconst 0, 1) := by decide +kernel
theorem zd174_40 : decode zxm174.2.1 40 = .ok (.istore 7, 2) := by decide +kernel
theorem zd174_42 : decode zxm174.2.1 42 = .ok (.iload 7, 2) := by decide +kernel
theorem zd174_44 : decode zxm174.2.1 44 = .ok (.aload_n 0, 1) := by decide +kernel
theorem zd174_45 : decode zxm174.2.1 45 = .ok (.getfield 40, 3) := by decide +kernel
theorem zd174_48 : decode zxm174.2.1 48 = .ok (.if_icmp .ge 165, 3) := by decide +kernel
theorem zd174_51 : decode zxm174.2.1 51 = .ok (.aload_n 0, 1) := by decide +kernel
theorem zd174_52 : decode zxm174.2.1 52 = .ok (.getfield 31, 3) := by decide +kernel
theorem zd174_55 : decode zxm174.2.1 55 = .ok (.iload 7, 2) := by decide +kernel
theorem zd174_57 : decode zxm174.2.1 57 = .ok (.iaload, 1) := by decide +kernel
theorem zd174_58 : decode zxm174.2.1 58 = .ok (.iload 6, 2) := by decide +kernel
theorem zd174_60 : decode zxm174.2.1 60 = .ok (.if_icmp .ge 153, 3) := by decide +kernel
theorem zd174_63 : decode zxm174.2.1 63 = .ok (.aload_n 0, 1) := by decide +kernel
theorem zd174_64 : decode zxm174.2.1 64 = .ok (.getfield 31, 3) := by decide +kernel
theorem zd174_67 : decode zxm174.2.1 67 = .ok (.iload 7, 2) := by decide +kernel
theorem zd174_69 : decode zxm174.2.1 69 = .ok (.iaload, 1) := by decide +kernel
theorem zd174_70 : decode zxm174.2.1 70 = .ok (.iload 6, 2) := by decide +kernel
theorem zd174_72 : decode zxm174.2.1 72 = .ok (.iconst 1, 1) := by decide +kernel
theorem zd174_73 : decode zxm174.2.1 73 = .ok (.isub, 1) := by decide +kernel
theorem zd174_74 : decode zxm174.2.1 74 = .ok (.if_icmp .ne 13, 3) := by decide +kernel
theorem zd174_77 : decode zxm174.2.1 77 = .ok (.aload_n 0, 1) := by decide +kernel
theorem zd174_78 : decode zxm174.2.1 78 = .ok (.getfield 34, 3) := by decide +kernel
theorem zd174_81 : decode zxm174.2.1 81 = .ok (.iload 7, 2) := by decide +kernel
theorem zd174_83 : decode zxm174.2.1 83 = .ok (.iaload, 1) := by decide +kernel
theorem zd174_84 : decode zxm174.2.1 84 = .ok (.goto 10, 3) := by decide +kernel
theorem zd174_87 : decode zxm174.2.1 87 = .ok (.aload_n 0, 1) := by decide +kernel
theorem zd174_88 : decode zxm174.2.1 88 = .ok (.getfield 37, 3) := by decide +kernel
theorem zd174_91 : decode zxm174.2.1 91 = .ok (.iload 7, 2) := by decide +kernel
theorem zd174_93 : decode zxm174.2.1 93 = .ok (.iaload, 1) := by decide +kernel
theorem zd174_94 : decode zxm174.2.1 94 = .ok (.istore 8, 2) := by decide +kernel
theorem zd174_96 : decode zxm174.2.1 96 = .ok (.aload_n 0, 1) := by decide +kernel
theorem zd174_97 : decode zxm174.2.1 97 = .ok (.getfield 46, 3) := by decide +kernel
theorem zd174_100 : decode zxm174.2.1 100 = .ok (.iload 8, 2) := by decide +kernel
theorem zd174_102 : decode zxm174.2.1 102 = .ok (.iaload, 1) := by decide +kernel
theorem zd174_103 : decode zxm174.2.1 103 = .ok (.iconst (-1), 1) := by decide +kernel
theorem zd174_104 : decode zxm174.2.1 104 = .ok (.if_icmp .ne 19, 3) := by decide +kernel
theorem zd174_107 : decode zxm174.2.1 107 = .ok (.aload_n 0, 1) := by decide +kernel
theorem zd174_108 : decode zxm174.2.1 108 = .ok (.getfield 46, 3) := by decide +kernel
theorem zd174_111 : decode zxm174.2.1 111 = .ok (.iload 8, 2) := by decide +kernel
theorem zd174_113 : decode zxm174.2.1 113 = .ok (.aload_n 0, 1) := by decide +kernel
theorem zd174_114 : decode zxm174.2.1 114 = .ok (.aload_n 1, 1) := by decide +kernel
theorem zd174_115 : decode zxm174.2.1 115 = .ok (.aload_n 2, 1) := by decide +kernel
theorem zd174_116 : decode zxm174.2.1 116 = .ok (.iload 8, 2) := by decide +kernel
theorem zd174_118 : decode zxm174.2.1 118 = .ok (.iload_n 3, 1) := by decide +kernel
theorem zd174_119 : decode zxm174.2.1 119 = .ok (.invokevirtual 150, 3) := by decide +kernel
theorem zd174_122 : decode zxm174.2.1 122 = .ok (.iastore, 1) := by decide +kernel
theorem zd174_123 : decode zxm174.2.1 123 = .ok (.aload_n 0, 1) := by decide +kernel
theorem zd174_124 : decode zxm174.2.1 124 = .ok (.getfield 37, 3) := by decide +kernel
theorem zd174_127 : decode zxm174.2.1 127 = .ok (.iload 7, 2) := by decide +kernel
theorem zd174_129 : decode zxm174.2.1 129 = .ok (.aload_n 0, 1) := by decide +kernel
theorem zd174_130 : decode zxm174.2.1 130 = .ok (.getfield 46, 3) := by decide +kernel
theorem zd174_133 : decode zxm174.2.1 133 = .ok (.iload 8, 2) := by decide +kernel
theorem zd174_135 : decode zxm174.2.1 135 = .ok (.iaload, 1) := by decide +kernel
theorem zd174_136 : decode zxm174.2.1 136 = .ok (.iastore, 1) := by decide +kernel
theorem zd174_137 : decode zxm174.2.1 137 = .ok (.aload_n 0, 1) := by decide +kernel
theorem zd174_138 : decode zxm174.2.1 138 = .ok (.getfield 37, 3) := by decide +kernel
theorem zd174_141 : decode zxm174.2.1 141 = .ok (.iload 7, 2) := by decide +kernel
theorem zd174_143 : decode zxm174.2.1 143 = .ok (.iaload, 1) := by decide +kernel
theorem zd174_144 : decode zxm174.2.1 144 = .ok (.iload 4, 2) := by decide +kernel
theorem zd174_146 : decode zxm174.2.1 146 = .ok (.if_icmp .ne 61, 3) := by decide +kernel
theorem zd174_149 : decode zxm174.2.1 149 = .ok (.iload 6, 2) := by decide +kernel
theorem zd174_151 : decode zxm174.2.1 151 = .ok (.sipush 6912, 3) := by decide +kernel
theorem zd174_154 : decode zxm174.2.1 154 = .ok (.imul, 1) := by decide +kernel
theorem zd174_155 : decode zxm174.2.1 155 = .ok (.aload_n 0, 1) := by decide +kernel
theorem zd174_156 : decode zxm174.2.1 156 = .ok (.getfield 28, 3) := by decide +kernel
theorem zd174_159 : decode zxm174.2.1 159 = .ok (.iload 7, 2) := by decide +kernel
theorem zd174_161 : decode zxm174.2.1 161 = .ok (.iaload, 1) := by decide +kernel
theorem zd174_162 : decode zxm174.2.1 162 = .ok (.bipush 12, 2) := by decide +kernel
theorem zd174_164 : decode zxm174.2.1 164 = .ok (.imul, 1) := by decide +kernel
theorem zd174_165 : decode zxm174.2.1 165 = .ok (.aload_n 0, 1) := by decide +kernel
theorem zd174_166 : decode zxm174.2.1 166 = .ok (.getfield 31, 3) := by decide +kernel
theorem zd174_169 : decode zxm174.2.1 169 = .ok (.iload 7, 2) := by decide +kernel
theorem zd174_171 : decode zxm174.2.1 171 = .ok (.iaload, 1) := by decide +kernel
theorem zd174_172 : decode zxm174.2.1 172 = .ok (.iadd, 1) := by decide +kernel
theorem zd174_173 : decode zxm174.2.1 173 = .ok (.bipush 24, 2) := by decide +kernel
theorem zd174_175 : decode zxm174.2.1 175 = .ok (.imul, 1) := by decide +kernel
theorem zd174_176 : decode zxm174.2.1 176 = .ok (.iadd, 1) := by decide +kernel
theorem zd174_177 : decode zxm174.2.1 177 = .ok (.iload_n 3, 1) := by decide +kernel
theorem zd174_178 : decode zxm174.2.1 178 = .ok (.iadd, 1) := by decide +kernel
theorem zd174_179 : decode zxm174.2.1 179 = .ok (.istore 9, 2) := by decide +kernel
theorem zd174_181 : decode zxm174.2.1 181 = .ok (.aload_n 0, 1) := by decide +kernel
theorem zd174_182 : decode zxm174.2.1 182 = .ok (.aload_n 0, 1) := by decide +kernel
theorem zd174_183 : decode zxm174.2.1 183 = .ok (.getfield 43, 3) := by decide +kernel
theorem zd174_186 : decode zxm174.2.1 186 = .ok (.iconst (-1), 1) := by decide +kernel
theorem zd174_187 : decode zxm174.2.1 187 = .ok (.if_icmp .ne 8, 3) := by decide +kernel
theorem zd174_190 : decode zxm174.2.1 190 = .ok (.iload 9, 2) := by decide +kernel
theorem zd174_192 : decode zxm174.2.1 192 = .ok (.goto 12, 3) := by decide +kernel
theorem zd174_195 : decode zxm174.2.1 195 = .ok (.aload_n 0, 1) := by decide +kernel
theorem zd174_196 : decode zxm174.2.1 196 = .ok (.getfield 43, 3) := by decide +kernel
theorem zd174_199 : decode zxm174.2.1 199 = .ok (.iload 9, 2) := by decide +kernel
theorem zd174_201 : decode zxm174.2.1 201 = .ok (.invokestatic 90, 3) := by decide +kernel
theorem zd174_204 : decode zxm174.2.1 204 = .ok (.putfield 43, 3) := by decide +kernel
theorem zd174_207 : decode zxm174.2.1 207 = .ok (.iinc 7 1, 3) := by decide +kernel
theorem zd174_210 : decode zxm174.2.1 210 = .ok (.goto (-168), 3) := by decide +kernel
theorem zd174_213 : decode zxm174.2.1 213 = .ok (.aload_n 0, 1) := by decide +kernel
theorem zd174_214 : decode zxm174.2.1 214 = .ok (.aload_n 1, 1) := by decide +kernel
theorem zd174_215 : decode zxm174.2.1 215 = .ok (.invokevirtual 123, 3) := by decide +kernel
theorem zd174_218 : decode zxm174.2.1 218 = .ok (.iinc 6 1, 3) := by decide +kernel
theorem zd174_221 : decode zxm174.2.1 221 = .ok (.goto (-218), 3) := by decide +kernel
theorem zd174_224 : decode zxm174.2.1 224 = .ok (.return_, 1) := by decide +kernel
theorem zt_Pilot_followSecond {x3 : Int} {x4 : Int} {x5 : Int} {f0 : Int} {f1 : Int} {f4 : Int} {f5 : Int} {f6 : Int} {f7 : Int} {f8 : Int} {f9 : Int} {f10 : Int} {f11 : Int} {f12 : Int} {f13 : Int} {f14 : Int} {f15 : Int} {f16 : Int} {f17 : Int} {g0 : (Int → Int)} {g1 : (Int → Int)} {g2 : (Int → Int)} {g3 : (Int → Int)} {g4 : (Int → Int)} {g5 : (Int → Int)} {g6 : (Int → Int)} {g7 : (Int → Int)} {g8 : (Int → Int)} {g9 : (Int → Int)} {g10 : (Int → Int)} {g11 : (Int → Int)} {g12 : (Int → Int)} {g13 : (Int → Int)} {g14 : (Int → Int)} {g15 : (Int → Int)} {g16 : (Int → Int)} {g17 : (Int → Int)} {g18 : (Int → Int)} {o : Int × Int × Int × Int × Int × Int × Int × Int × (Int → Int) × (Int → Int) × (Int → Int) × (Int → Int) × (Int → Int) × (Int → Int) × (Int → Int)} (h : zf_Pilot_followSecond x3 x4 x5 f0 f1 f4 f5 f6 f7 f8 f9 f10 f11 f12 f13 f14 f15 f16 f17 g0 g1 g2 g3 g4 g5 g6 g7 g8 g9 g10 g11 g12 g13 g14 g15 g16 g17 g18 = some o) : zv_Fn z_TB z_cl z_KX zy_Pilot_followSecond zxm174 (5, 300) [.inr 0, .inr 1, .inr 2, .inl x3, .inl x4, .inl x5] [.inl f0, .inl f1, .inr 7, .inr 9, .inl f4, .inl f5, .inl f6, .inl f7, .inl f8, .inl f9, .inl f10, .inl f11, .inl f12, .inl f13, .inl f14, .inl f15, .inl f16, .inl f17] [g0, g1, g2, g3, g4, g5, g6, g7, g8, g9, g10, g11, g12, g13, g14, g15, g16, g17, g18] none [.inl o.1, .inl f1, .inr 7, .inr 9, .inl o.2.1, .inl o.2.2.1, .inl o.2.2.2.1, .inl o.2.2.2.2.1, .inl f8, .inl f9, .inl f10, .inl f11, .inl f12, .inl o.2.2.2.2.2.1, .inl o.2.2.2.2.2.2.1, .inl f15, .inl o.2.2.2.2.2.2.2.1, .inl f17] [o.2.2.2.2.2.2.2.2.1, g1, o.2.2.2.2.2.2.2.2.2.1, g3, o.2.2.2.2.2.2.2.2.2.2.1, o.2.2.2.2.2.2.2.2.2.2.2.1, o.2.2.2.2.2.2.2.2.2.2.2.2.1, g7, g8, g9, g10, g11, o.2.2.2.2.2.2.2.2.2.2.2.2.2.1, g13, g14, g15, g16, g17, o.2.2.2.2.2.2.2.2.2.2.2.2.2.2] := zv_meth (K := (z_KF6, z_KC6, z_KL6, z_KT6, [], [], [], none)) (FT := z_FT) (MT := z_MT) (n := 6) zxp174 (z_ks6 _ (fun _ h => List.mem_cons_of_mem _ h) _ _ _ _ (fun j r h _ => by cases h)) (fun _ _ => zs_KX_p) zyw_Pilot_followSecond (fun va F G h => by obtain ⟨rfl, _⟩ := h; rfl) (fun va F G h => by obtain ⟨rfl, _⟩ := h; rfl) rfl fun good va F G hB hret hvret hP => by
  obtain ⟨rfl, rfl, rfl⟩ := hP
  have l1 : ∀ (n : Nat) (x3 : Int) (x4 : Int) (x5 : Int) (x6 : Int) (x7 : Int) (f0 : Int) (f4 : Int) (f5 : Int) (f6 : Int) (f7 : Int) (f13 : Int) (f14 : Int) (f16 : Int) (g0 : (Int → Int)) (g2 : (Int → Int)) (g4 : (Int → Int)) (g5 : (Int → Int)) (g6 : (Int → Int)) (g12 : (Int → Int)) (g18 : (Int → Int)) (q : Int × Int × Int × Int × Int × Int × (Int → Int) × (Int → Int) × (Int → Int) × (Int → Int)), zf_Pilot_followSecond_l1 x3 x4 x6 f1 f6 f7 f8 f9 f10 f11 f12 f15 f17 g1 g3 g5 g6 g7 g8 g9 g10 g11 g13 g14 g15 n x7 f0 f4 f5 f13 f14 f16 g0 g2 g4 g12 = some q → (good 213 [.inr 0, .inr 1, .inr 2, .inl x3, .inl x4, .inl x5, .inl x6, .inr 1000, .inr 1000, .inr 1000] [] [.inl q.1, .inl f1, .inr 7, .inr 9, .inl q.2.1, .inl q.2.2.1, .inl f6, .inl f7, .inl f8, .inl f9, .inl f10, .inl f11, .inl f12, .inl q.2.2.2.1, .inl q.2.2.2.2.1, .inl f15, .inl q.2.2.2.2.2.1, .inl f17] [q.2.2.2.2.2.2.1, g1, q.2.2.2.2.2.2.2.1, g3, q.2.2.2.2.2.2.2.2.1, g5, g6, g7, g8, g9, g10, g11, q.2.2.2.2.2.2.2.2.2, g13, g14, g15, g16, g17, g18]) → good 42 [.inr 0, .inr 1, .inr 2, .inl x3, .inl x4, .inl x5, .inl x6, .inl x7, .inr 1000, .inr 1000] [] [.inl f0, .inl f1, .inr 7, .inr 9, .inl f4, .inl f5, .inl f6, .inl f7, .inl f8, .inl f9, .inl f10, .inl f11, .inl f12, .inl f13, .inl f14, .inl f15, .inl f16, .inl f17] [g0, g1, g2, g3, g4, g5, g6, g7, g8, g9, g10, g11, g12, g13, g14, g15, g16, g17, g18] := by
    intro n
    induction n with
    | zero => intro x3 x4 x5 x6 x7 f0 f4 f5 f6 f7 f13 f14 f16 g0 g2 g4 g5 g6 g12 g18 q h; exact absurd (show none = some q from h) (fun h => by cases h)
    | succ n ih =>
      intro x3 x4 x5 x6 x7 f0 f4 f5 f6 f7 f13 f14 f16 g0 g2 g4 g5 g6 g12 g18 q h hK
      replace h : zf_Pilot_followSecond_l1_b x3 x4 x6 f1 f6 f7 f8 f9 f10 f11 f12 f15 f17 g1 g3 g5 g6 g7 g8 g9 g10 g11 g13 g14 g15 (zf_Pilot_followSecond_l1 x3 x4 x6 f1 f6 f7 f8 f9 f10 f11 f12 f15 f17 g1 g3 g5 g6 g7 g8 g9 g10 g11 g13 g14 g15 n) x7 f0 f4 f5 f13 f14 f16 g0 g2 g4 g12 = some q := h
      unfold zf_Pilot_followSecond_l1_b at h
      refine zv_ild hB zd174_42 rfl rfl ?_
      refine zv_ald hB zd174_44 rfl rfl rfl ?_
      refine zv_getf hB zd174_45 rfl rfl (fun _ _ => ?_)
      refine zv_cge hB zd174_48 rfl (fun hc4 => ?_) (fun hc4 => ?_)
      · rw [if_neg (Int.not_lt.mpr hc4)] at h
        have hq := Option.some.inj h
        subst hq
        refine zv_wk hB (L' := [.inr 0, .inr 1, .inr 2, .inl x3, .inl x4, .inl x5, .inl x6, .inr 1000, .inr 1000, .inr 1000]) (F' := [.inl f0, .inl f1, .inr 7, .inr 9, .inl f4, .inl f5, .inl f6, .inl f7, .inl f8, .inl f9, .inl f10, .inl f11, .inl f12, .inl f13, .inl f14, .inl f15, .inl f16, .inl f17]) ⟨fun _ => rfl, fun _ => rfl, fun _ => rfl, fun _ => rfl, fun _ => rfl, fun _ => rfl, fun _ => rfl, fun (h : zv_is (.inr 1000)) => (Nat.lt_irrefl 1000 h).elim, fun (h : zv_is (.inr 1000)) => (Nat.lt_irrefl 1000 h).elim, fun (h : zv_is (.inr 1000)) => (Nat.lt_irrefl 1000 h).elim, trivial⟩ ⟨fun _ => rfl, fun _ => rfl, fun _ => rfl, fun _ => rfl, fun _ => rfl, fun _ => rfl, fun _ => rfl, fun _ => rfl, fun _ => rfl, fun _ => rfl, fun _ => rfl, fun _ => rfl, fun _ => rfl, fun _ => rfl, fun _ => rfl, fun _ => rfl, fun _ => rfl, fun _ => rfl, trivial⟩ ?_
        exact hK
      · rw [if_pos hc4] at h
        refine zv_ald hB zd174_51 rfl rfl rfl ?_
        refine zv_getr hB zd174_52 rfl ?_
        refine zv_ild hB zd174_55 rfl rfl ?_
        obtain ⟨c5, h⟩ := zi_if h
        refine zv_iald hB zd174_57 rfl rfl (zi_ix_ok c5).1 (zi_ix_ok c5).2 (fun _ _ => ?_)
        refine zv_ild hB zd174_58 rfl rfl ?_
        refine zv_cge hB zd174_60 rfl (fun hc6 => ?_) (fun hc6 => ?_)
        · rw [if_neg (Int.not_lt.mpr hc6)] at h
          have hq := Option.some.inj h
          subst hq
          refine zv_wk hB (L' := [.inr 0, .inr 1, .inr 2, .inl x3, .inl x4, .inl x5, .inl x6, .inr 1000, .inr 1000, .inr 1000]) (F' := [.inl f0, .inl f1, .inr 7, .inr 9, .inl f4, .inl f5, .inl f6, .inl f7, .inl f8, .inl f9, .inl f10, .inl f11, .inl f12, .inl f13, .inl f14, .inl f15, .inl f16, .inl f17]) ⟨fun _ => rfl, fun _ => rfl, fun _ => rfl, fun _ => rfl, fun _ => rfl, fun _ => rfl, fun _ => rfl, fun (h : zv_is (.inr 1000)) => (Nat.lt_irrefl 1000 h).elim, fun (h : zv_is (.inr 1000)) => (Nat.lt_irrefl 1000 h).elim, fun (h : zv_is (.inr 1000)) => (Nat.lt_irrefl 1000 h).elim, trivial⟩ ⟨fun _ => rfl, fun _ => rfl, fun _ => rfl, fun _ => rfl, fun _ => rfl, fun _ => rfl, fun _ => rfl, fun _ => rfl, fun _ => rfl, fun _ => rfl, fun _ => rfl, fun _ => rfl, fun _ => rfl, fun _ => rfl, fun _ => rfl, fun _ => rfl, fun _ => rfl, fun _ => rfl, trivial⟩ ?_
          exact hK
        · rw [if_pos hc6] at h
          refine zv_ald hB zd174_63 rfl rfl rfl ?_
          refine zv_getr hB zd174_64 rfl ?_
          refine zv_ild hB zd174_67 rfl rfl ?_
          refine zv_iald hB zd174_69 rfl rfl (zi_ix_ok c5).1 (zi_ix_ok c5).2 (fun _ _ => ?_)
          refine zv_ild hB zd174_70 rfl rfl ?_
          refine zv_con hB zd174_72 rfl ?_
          refine zv_subw hB zd174_73 ?_
          refine zv_cne hB zd174_74 rfl (fun hc7 => ?_) (fun hc7 => ?_)
          · rw [if_neg hc7] at h
            refine zv_ald hB zd174_87 rfl rfl rfl ?_
            refine zv_getr hB zd174_88 rfl ?_
            refine zv_ild hB zd174_91 rfl rfl ?_
            refine zv_iald hB zd174_93 rfl rfl (zi_ix_ok c5).1 (zi_ix_ok c5).2 (fun _ _ => ?_)
            refine zv_ist hB zd174_94 rfl rfl rfl ?_
            refine zv_ald hB zd174_96 rfl rfl rfl ?_
            refine zv_getr hB zd174_97 rfl ?_
            refine zv_ild hB zd174_100 rfl rfl ?_
            obtain ⟨c8, h⟩ := zi_if h
            refine zv_iald hB zd174_102 rfl rfl (zi_ix_ok c8).1 (zi_ix_ok c8).2 (fun _ _ => ?_)
            refine zv_con hB zd174_103 rfl ?_
            refine zv_cne hB zd174_104 rfl (fun hc9 => ?_) (fun hc9 => ?_)
            · rw [if_neg hc9] at h
              refine zv_ald hB zd174_123 rfl rfl rfl ?_
              refine zv_getr hB zd174_124 rfl ?_
              refine zv_ild hB zd174_127 rfl rfl ?_
              refine zv_ald hB zd174_129 rfl rfl rfl ?_
              refine zv_getr hB zd174_130 rfl ?_
              refine zv_ild hB zd174_133 rfl rfl ?_
              refine zv_iald hB zd174_135 rfl rfl (zi_ix_ok c8).1 (zi_ix_ok c8).2 (fun _ _ => ?_)
              refine zv_iast hB zd174_136 rfl rfl (zi_ix_ok c5).1 (zi_ix_ok c5).2 ?_
              refine zv_ald hB zd174_137 rfl rfl rfl ?_
              refine zv_getr hB zd174_138 rfl ?_
              refine zv_ild hB zd174_141 rfl rfl ?_
              refine zv_iald hB zd174_143 rfl rfl (zi_ix_ok c5).1 (zi_ix_ok c5).2 (fun _ _ => ?_)
              refine zv_ild hB zd174_144 rfl rfl ?_
              refine zv_cne hB zd174_146 rfl (fun hc10 => ?_) (fun hc10 => ?_)
              · rw [if_neg hc10] at h
                refine zv_iincw hB zd174_207 rfl rfl ?_
                refine zv_goto hB zd174_210 rfl ?_
                refine zv_wk hB (L' := [.inr 0, .inr 1, .inr 2, .inl x3, .inl x4, .inl x5, .inl x6, .inl (zi_w (x7 + 1)), .inr 1000, .inr 1000]) (F' := [.inl f0, .inl f1, .inr 7, .inr 9, .inl f4, .inl f5, .inl f6, .inl f7, .inl f8, .inl f9, .inl f10, .inl f11, .inl f12, .inl f13, .inl f14, .inl f15, .inl f16, .inl f17]) ⟨fun _ => rfl, fun _ => rfl, fun _ => rfl, fun _ => rfl, fun _ => rfl, fun _ => rfl, fun _ => rfl, fun _ => rfl, fun (h : zv_is (.inr 1000)) => (Nat.lt_irrefl 1000 h).elim, fun (h : zv_is (.inr 1000)) => (Nat.lt_irrefl 1000 h).elim, trivial⟩ ⟨fun _ => rfl, fun _ => rfl, fun _ => rfl, fun _ => rfl, fun _ => rfl, fun _ => rfl, fun _ => rfl, fun _ => rfl, fun _ => rfl, fun _ => rfl, fun _ => rfl, fun _ => rfl, fun _ => rfl, fun _ => rfl, fun _ => rfl, fun _ => rfl, fun _ => rfl, fun _ => rfl, trivial⟩ ?_
                exact ih _ _ _ _ _ _ _ _ _ _ _ _ _ _ _ _ _ _ _ _ q h hK
              · rw [if_pos hc10] at h
                refine zv_ild hB zd174_149 rfl rfl ?_
                refine zv_con hB zd174_151 rfl ?_
                refine zv_mulw hB zd174_154 ?_
                refine zv_ald hB zd174_155 rfl rfl rfl ?_
                refine zv_getr hB zd174_156 rfl ?_
                refine zv_ild hB zd174_159 rfl rfl ?_
                refine zv_iald hB zd174_161 rfl rfl (zi_ix_ok c5).1 (zi_ix_ok c5).2 (fun _ _ => ?_)
                refine zv_con hB zd174_162 rfl ?_
                refine zv_mulw hB zd174_164 ?_
                refine zv_ald hB zd174_165 rfl rfl rfl ?_
                refine zv_getr hB zd174_166 rfl ?_
                refine zv_ild hB zd174_169 rfl rfl ?_
                refine zv_iald hB zd174_171 rfl rfl (zi_ix_ok c5).1 (zi_ix_ok c5).2 (fun _ _ => ?_)
                refine zv_addw hB zd174_172 ?_
                refine zv_con hB zd174_173 rfl ?_
                refine zv_mulw hB zd174_175 ?_
                refine zv_addw hB zd174_176 ?_
                refine zv_ild hB zd174_177 rfl rfl ?_
                refine zv_addw hB zd174_178 ?_
                refine zv_ist hB zd174_179 rfl rfl rfl ?_
                refine zv_ald hB zd174_181 rfl rfl rfl ?_
                refine zv_ald hB zd174_182 rfl rfl rfl ?_
                refine zv_getf hB zd174_183 rfl rfl (fun _ _ => ?_)
                refine zv_con hB zd174_186 rfl ?_
                refine zv_cne hB zd174_187 rfl (fun hc11 => ?_) (fun hc11 => ?_)
                · rw [if_neg hc11] at h
                  refine zv_ald hB zd174_195 rfl rfl rfl ?_
                  refine zv_getf hB zd174_196 rfl rfl (fun _ _ => ?_)
                  refine zv_ild hB zd174_199 rfl rfl ?_
                  obtain ⟨r12, hr12, h⟩ := zi_bind h
                  refine zv_cs hB (zv_emq (va2 := [.inl f0, .inl (zi_w ((zi_w ((zi_w (x6 * 6912)) + (zi_w ((zi_w ((zi_w ((g3 x7) * 12)) + (g1 x7))) * 24)))) + x3))]) (F := [.inl f0, .inl f1, .inr 7, .inr 9, .inl f4, .inl f5, .inl f6, .inl f7, .inl f8, .inl f9, .inl f10, .inl f11, .inl f12, .inl f13, .inl f14, .inl f15, .inl f16, .inl f17]) (F' := [.inl f0, .inl f1, .inr 7, .inr 9, .inl f4, .inl f5, .inl f6, .inl f7, .inl f8, .inl f9, .inl f10, .inl f11, .inl f12, .inl f13, .inl f14, .inl f15, .inl f16, .inl f17]) (G := [g0, g1, (zv_up g2 x7 (g0 (g2 x7))), g3, g4, g5, g6, g7, g8, g9, g10, g11, g12, g13, g14, g15, g16, g17, g18]) (G' := [g0, g1, (zv_up g2 x7 (g0 (g2 x7))), g3, g4, g5, g6, g7, g8, g9, g10, g11, g12, g13, g14, g15, g16, g17, g18]) (ρ := []) (φ := []) (ψ := []) [none, none, none, none, none, none, none, none, none, none, none, none, none, none, none, none, none, none] [none, none, none, none, none, none, none, none, none, none, none, none, none, none, none, none, none, none, none] zyw_Math_min zyw_Pilot_followSecond zye_Pilot_followSecond (by decide +kernel) (zt_Math_min hr12) trivial trivial rfl rfl rfl rfl rfl rfl rfl) zd174_201 zxt37 rfl (by decide) (by decide) rfl ?_
                  refine zv_putf hB zd174_204 rfl rfl (fun h => by cases h) rfl ?_
                  refine zv_iincw hB zd174_207 rfl rfl ?_
                  refine zv_goto hB zd174_210 rfl ?_
                  refine zv_wk hB (L' := [.inr 0, .inr 1, .inr 2, .inl x3, .inl x4, .inl x5, .inl x6, .inl (zi_w (x7 + 1)), .inr 1000, .inr 1000]) (F' := [.inl r12, .inl f1, .inr 7, .inr 9, .inl f4, .inl f5, .inl f6, .inl f7, .inl f8, .inl f9, .inl f10, .inl f11, .inl f12, .inl f13, .inl f14, .inl f15, .inl f16, .inl f17]) ⟨fun _ => rfl, fun _ => rfl, fun _ => rfl, fun _ => rfl, fun _ => rfl, fun _ => rfl, fun _ => rfl, fun _ => rfl, fun (h : zv_is (.inr 1000)) => (Nat.lt_irrefl 1000 h).elim, fun (h : zv_is (.inr 1000)) => (Nat.lt_irrefl 1000 h).elim, trivial⟩ ⟨fun _ => rfl, fun _ => rfl, fun _ => rfl, fun _ => rfl, fun _ => rfl, fun _ => rfl, fun _ => rfl, fun _ => rfl, fun _ => rfl, fun _ => rfl, fun _ => rfl, fun _ => rfl, fun _ => rfl, fun _ => rfl, fun _ => rfl, fun _ => rfl, fun _ => rfl, fun _ => rfl, trivial⟩ ?_
                  exact ih _ _ _ _ _ _ _ _ _ _ _ _ _ _ _ _ _ _ _ _ q h hK
                · rw [if_pos hc11] at h
                  refine zv_ild hB zd174_190 rfl rfl ?_
                  refine zv_goto hB zd174_192 rfl ?_
                  refine zv_putf hB zd174_204 rfl rfl (fun h => by cases h) rfl ?_
                  refine zv_iincw hB zd174_207 rfl rfl ?_
                  refine zv_goto hB zd174_210 rfl ?_
                  refine zv_wk hB (L' := [.inr 0, .inr 1, .inr 2, .inl x3, .inl x4, .inl x5, .inl x6, .inl (zi_w (x7 + 1)), .inr 1000, .inr 1000]) (F' := [.inl (zi_w ((zi_w ((zi_w (x6 * 6912)) + (zi_w ((zi_w ((zi_w ((g3 x7) * 12)) + (g1 x7))) * 24)))) + x3)), .inl f1, .inr 7, .inr 9, .inl f4, .inl f5, .inl f6, .inl f7, .inl f8, .inl f9, .inl f10, .inl f11, .inl f12, .inl f13, .inl f14, .inl f15, .inl f16, .inl f17]) ⟨fun _ => rfl, fun _ => rfl, fun _ => rfl, fun _ => rfl, fun _ => rfl, fun _ => rfl, fun _ => rfl, fun _ => rfl, fun (h : zv_is (.inr 1000)) => (Nat.lt_irrefl 1000 h).elim, fun (h : zv_is (.inr 1000)) => (Nat.lt_irrefl 1000 h).elim, trivial⟩ ⟨fun _ => rfl, fun _ => rfl, fun _ => rfl, fun _ => rfl, fun _ => rfl, fun _ => rfl, fun _ => rfl, fun _ => rfl, fun _ => rfl, fun _ => rfl, fun _ => rfl, fun _ => rfl, fun _ => rfl, fun _ => rfl, fun _ => rfl, fun _ => rfl, fun _ => rfl, fun _ => rfl, trivial⟩ ?_
                  exact ih _ _ _ _ _ _ _ _ _ _ _ _ _ _ _ _ _ _ _ _ q h hK
            · rw [if_pos hc9] at h
              refine zv_ald hB zd174_107 rfl rfl rfl ?_
              refine zv_getr hB zd174_108 rfl ?_
              refine zv_ild hB zd174_111 rfl rfl ?_
              refine zv_ald hB zd174_113 rfl rfl rfl ?_
              refine zv_ald hB zd174_114 rfl rfl rfl ?_
              refine zv_ald hB zd174_115 rfl rfl rfl ?_
              refine zv_ild hB zd174_116 rfl rfl ?_
              refine zv_ild hB zd174_118 rfl rfl ?_
              obtain ⟨r13, hr13, h⟩ := zi_bind h
              refine zv_cv hB (zv_emq (va2 := [.inr 0, .inr 1, .inr 2, .inl (g2 x7), .inl x3]) (F := [.inl f0, .inl f1, .inr 7, .inr 9, .inl f4, .inl f5, .inl f6, .inl f7, .inl f8, .inl f9, .inl f10, .inl f11, .inl f12, .inl f13, .inl f14, .inl f15, .inl f16, .inl f17]) (F' := [.inl f0, .inl f1, .inr 7, .inr 9, .inl r13.2.1, .inl r13.2.2.1, .inl f6, .inl f7, .inl f8, .inl f9, .inl f10, .inl f11, .inl f12, .inl r13.2.2.2.1, .inl r13.2.2.2.2.1, .inl f15, .inl r13.2.2.2.2.2.1, .inl f17]) (G := [g0, g1, g2, g3, g4, g5, g6, g7, g8, g9, g10, g11, g12, g13, g14, g15, g16, g17, g18]) (G' := [g0, g1, g2, g3, r13.2.2.2.2.2.2.1, g5, g6, g7, g8, g9, g10, g11, r13.2.2.2.2.2.2.2, g13, g14, g15, g16, g17, g18]) (ρ := [0, 1, 2, 7, 8, 9, 10, 11, 12, 13, 14, 15, 16, 17, 18, 19]) (φ := [2, 3, 4, 5, 6, 7, 8, 9, 10, 11, 12, 13, 14, 15, 16, 17]) (ψ := [4, 5, 6, 7, 8, 9, 10, 11, 12, 13, 14]) [none, none, some 0, some 1, some 2, some 3, some 4, some 5, some 6, some 7, some 8, some 9, some 10, some 11, some 12, some 13, some 14, some 15] [none, none, none, none, some 0, some 1, some 2, some 3, some 4, some 5, some 6, some 7, some 8, some 9, some 10, none, none, none, none] zyw_Pilot_step zyw_Pilot_followSecond zye_Pilot_followSecond (by decide +kernel) (zt_Pilot_step hr13) ⟨⟨_, rfl, fun _ => rfl⟩, ⟨_, rfl, fun _ => rfl⟩, ⟨_, rfl, fun _ => rfl⟩, ⟨_, rfl, fun _ => rfl⟩, ⟨_, rfl, fun _ => rfl⟩, ⟨_, rfl, fun _ => rfl⟩, ⟨_, rfl, fun _ => rfl⟩, ⟨_, rfl, fun _ => rfl⟩, ⟨_, rfl, fun _ => rfl⟩, ⟨_, rfl, fun _ => rfl⟩, ⟨_, rfl, fun _ => rfl⟩, ⟨_, rfl, fun _ => rfl⟩, ⟨_, rfl, fun _ => rfl⟩, ⟨_, rfl, fun _ => rfl⟩, ⟨_, rfl, fun _ => rfl⟩, ⟨_, rfl, fun _ => rfl⟩, trivial⟩ ⟨rfl, rfl, rfl, rfl, rfl, rfl, rfl, rfl, rfl, rfl, rfl, trivial⟩ rfl rfl rfl rfl rfl rfl rfl) zd174_119 zxt153 rfl (by decide) (by decide) rfl ?_
              refine zv_iast hB zd174_122 rfl rfl (zi_ix_ok c8).1 (zi_ix_ok c8).2 ?_
              refine zv_ald hB zd174_123 rfl rfl rfl ?_
              refine zv_getr hB zd174_124 rfl ?_
              refine zv_ild hB zd174_127 rfl rfl ?_
              refine zv_ald hB zd174_129 rfl rfl rfl ?_
              refine zv_getr hB zd174_130 rfl ?_
              refine zv_ild hB zd174_133 rfl rfl ?_
              refine zv_iald hB zd174_135 rfl rfl (zi_ix_ok c8).1 (zi_ix_ok c8).2 (fun _ _ => ?_)
              refine zv_iast hB zd174_136 rfl rfl (zi_ix_ok c5).1 (zi_ix_ok c5).2 ?_
              refine zv_ald hB zd174_137 rfl rfl rfl ?_
              refine zv_getr hB zd174_138 rfl ?_
              refine zv_ild hB zd174_141 rfl rfl ?_
              refine zv_iald hB zd174_143 rfl rfl (zi_ix_ok c5).1 (zi_ix_ok c5).2 (fun _ _ => ?_)
              refine zv_ild hB zd174_144 rfl rfl ?_
              refine zv_cne hB zd174_146 rfl (fun hc14 => ?_) (fun hc14 => ?_)
              · rw [if_neg hc14] at h
                refine zv_iincw hB zd174_207 rfl rfl ?_
                refine zv_goto hB zd174_210 rfl ?_
                refine zv_wk hB (L' := [.inr 0, .inr 1, .inr 2, .inl x3, .inl x4, .inl x5, .inl x6, .inl (zi_w (x7 + 1)), .inr 1000, .inr 1000]) (F' := [.inl f0, .inl f1, .inr 7, .inr 9, .inl r13.2.1, .inl r13.2.2.1, .inl f6, .inl f7, .inl f8, .inl f9, .inl f10, .inl f11, .inl f12, .inl r13.2.2.2.1, .inl r13.2.2.2.2.1, .inl f15, .inl r13.2.2.2.2.2.1, .inl f17]) ⟨fun _ => rfl, fun _ => rfl, fun _ => rfl, fun _ => rfl, fun _ => rfl, fun _ => rfl, fun _ => rfl, fun _ => rfl, fun (h : zv_is (.inr 1000)) => (Nat.lt_irrefl 1000 h).elim, fun (h : zv_is (.inr 1000)) => (Nat.lt_irrefl 1000 h).elim, trivial⟩ ⟨fun _ => rfl, fun _ => rfl, fun _ => rfl, fun _ => rfl, fun _ => rfl, fun _ => rfl, fun _ => rfl, fun _ => rfl, fun _ => rfl, fun _ => rfl, fun _ => rfl, fun _ => rfl, fun _ => rfl, fun _ => rfl, fun _ => rfl, fun _ => rfl, fun _ => rfl, fun _ => rfl, trivial⟩ ?_
                exact ih _ _ _ _ _ _ _ _ _ _ _ _ _ _ _ _ _ _ _ _ q h hK
              · rw [if_pos hc14] at h
                refine zv_ild hB zd174_149 rfl rfl ?_
                refine zv_con hB zd174_151 rfl ?_
                refine zv_mulw hB zd174_154 ?_
                refine zv_ald hB zd174_155 rfl rfl rfl ?_
                refine zv_getr hB zd174_156 rfl ?_
                refine zv_ild hB zd174_159 rfl rfl ?_
                refine zv_iald hB zd174_161 rfl rfl (zi_ix_ok c5).1 (zi_ix_ok c5).2 (fun _ _ => ?_)
                refine zv_con hB zd174_162 rfl ?_
                refine zv_mulw hB zd174_164 ?_
                refine zv_ald hB zd174_165 rfl rfl rfl ?_
                refine zv_getr hB zd174_166 rfl ?_
                refine zv_ild hB zd174_169 rfl rfl ?_
                refine zv_iald hB zd174_171 rfl rfl (zi_ix_ok c5).1 (zi_ix_ok c5).2 (fun _ _ => ?_)
                refine zv_addw hB zd174_172 ?_
                refine zv_con hB zd174_173 rfl ?_
                refine zv_mulw hB zd174_175 ?_
                refine zv_addw hB zd174_176 ?_
                refine zv_ild hB zd174_177 rfl rfl ?_
                refine zv_addw hB zd174_178 ?_
                refine zv_ist hB zd174_179 rfl rfl rfl ?_
                refine zv_ald hB zd174_181 rfl rfl rfl ?_
                refine zv_ald hB zd174_182 rfl rfl rfl ?_
                refine zv_getf hB zd174_183 rfl rfl (fun _ _ => ?_)
                refine zv_con hB zd174_186 rfl ?_
                refine zv_cne hB zd174_187 rfl (fun hc15 => ?_) (fun hc15 => ?_)
                · rw [if_neg hc15] at h
                  refine zv_ald hB zd174_195 rfl rfl rfl ?_
                  refine zv_getf hB zd174_196 rfl rfl (fun _ _ => ?_)
                  refine zv_ild hB zd174_199 rfl rfl ?_
                  obtain ⟨r16, hr16, h⟩ := zi_bind h
                  refine zv_cs hB (zv_emq (va2 := [.inl f0, .inl (zi_w ((zi_w ((zi_w (x6 * 6912)) + (zi_w ((zi_w ((zi_w ((g3 x7) * 12)) + (g1 x7))) * 24)))) + x3))]) (F := [.inl f0, .inl f1, .inr 7, .inr 9, .inl r13.2.1, .inl r13.2.2.1, .inl f6, .inl f7, .inl f8, .inl f9, .inl f10, .inl f11, .inl f12, .inl r13.2.2.2.1, .inl r13.2.2.2.2.1, .inl f15, .inl r13.2.2.2.2.2.1, .inl f17]) (F' := [.inl f0, .inl f1, .inr 7, .inr 9, .inl r13.2.1, .inl r13.2.2.1, .inl f6, .inl f7, .inl f8, .inl f9, .inl f10, .inl f11, .inl f12, .inl r13.2.2.2.1, .inl r13.2.2.2.2.1, .inl f15, .inl r13.2.2.2.2.2.1, .inl f17]) (G := [(zv_up g0 (g2 x7) r13.1), g1, (zv_up g2 x7 ((zv_up g0 (g2 x7) r13.1) (g2 x7))), g3, r13.2.2.2.2.2.2.1, g5, g6, g7, g8, g9, g10, g11, r13.2.2.2.2.2.2.2, g13, g14, g15, g16, g17, g18]) (G' := [(zv_up g0 (g2 x7) r13.1), g1, (zv_up g2 x7 ((zv_up g0 (g2 x7) r13.1) (g2 x7))), g3, r13.2.2.2.2.2.2.1, g5, g6, g7, g8, g9, g10, g11, r13.2.2.2.2.2.2.2, g13, g14, g15, g16, g17, g18]) (ρ := []) (φ := []) (ψ := []) [none, none, none, none, none, none, none, none, none, none, none, none, none, none, none, none, none, none] [none, none, none, none, none, none, none, none, none, none, none, none, none, none, none, none, none, none, none] zyw_Math_min zyw_Pilot_followSecond zye_Pilot_followSecond (by decide +kernel) (zt_Math_min hr16) trivial trivial rfl rfl rfl rfl rfl rfl rfl) zd174_201 zxt37 rfl (by decide) (by decide) rfl ?_
                  refine zv_putf hB zd174_204 rfl rfl (fun h => by cases h) rfl ?_
                  refine zv_iincw hB zd174_207 rfl rfl ?_
                  refine zv_goto hB zd174_210 rfl ?_
                  refine zv_wk hB (L' := [.inr 0, .inr 1, .inr 2, .inl x3, .inl x4, .inl x5, .inl x6, .inl (zi_w (x7 + 1)), .inr 1000, .inr 1000]) (F' := [.inl r16, .inl f1, .inr 7, .inr 9, .inl r13.2.1, .inl r13.2.2.1, .inl f6, .inl f7, .inl f8, .inl f9, .inl f10, .inl f11, .inl f12, .inl r13.2.2.2.1, .inl r13.2.2.2.2.1, .inl f15, .inl r13.2.2.2.2.2.1, .inl f17]) ⟨fun _ => rfl, fun _ => rfl, fun _ => rfl, fun _ => rfl, fun _ => rfl, fun _ => rfl, fun _ => rfl, fun _ => rfl, fun (h : zv_is (.inr 1000)) => (Nat.lt_irrefl 1000 h).elim, fun (h : zv_is (.inr 1000)) => (Nat.lt_irrefl 1000 h).elim, trivial⟩ ⟨fun _ => rfl, fun _ => rfl, fun _ => rfl, fun _ => rfl, fun _ => rfl, fun _ => rfl, fun _ => rfl, fun _ => rfl, fun _ => rfl, fun _ => rfl, fun _ => rfl, fun _ => rfl, fun _ => rfl, fun _ => rfl, fun _ => rfl, fun _ => rfl, fun _ => rfl, fun _ => rfl, trivial⟩ ?_
                  exact ih _ _ _ _ _ _ _ _ _ _ _ _ _ _ _ _ _ _ _ _ q h hK
                · rw [if_pos hc15] at h
                  refine zv_ild hB zd174_190 rfl rfl ?_
                  refine zv_goto hB zd174_192 rfl ?_
                  refine zv_putf hB zd174_204 rfl rfl (fun h => by cases h) rfl ?_
                  refine zv_iincw hB zd174_207 rfl rfl ?_
                  refine zv_goto hB zd174_210 rfl ?_
                  refine zv_wk hB (L' := [.inr 0, .inr 1, .inr 2, .inl x3, .inl x4, .inl x5, .inl x6, .inl (zi_w (x7 + 1)), .inr 1000, .inr 1000]) (F' := [.inl (zi_w ((zi_w ((zi_w (x6 * 6912)) + (zi_w ((zi_w ((zi_w ((g3 x7) * 12)) + (g1 x7))) * 24)))) + x3)), .inl f1, .inr 7, .inr 9, .inl r13.2.1, .inl r13.2.2.1, .inl f6, .inl f7, .inl f8, .inl f9, .inl f10, .inl f11, .inl f12, .inl r13.2.2.2.1, .inl r13.2.2.2.2.1, .inl f15, .inl r13.2.2.2.2.2.1, .inl f17]) ⟨fun _ => rfl, fun _ => rfl, fun _ => rfl, fun _ => rfl, fun _ => rfl, fun _ => rfl, fun _ => rfl, fun _ => rfl, fun (h : zv_is (.inr 1000)) => (Nat.lt_irrefl 1000 h).elim, fun (h : zv_is (.inr 1000)) => (Nat.lt_irrefl 1000 h).elim, trivial⟩ ⟨fun _ => rfl, fun _ => rfl, fun _ => rfl, fun _ => rfl, fun _ => rfl, fun _ => rfl, fun _ => rfl, fun _ => rfl, fun _ => rfl, fun _ => rfl, fun _ => rfl, fun _ => rfl, fun _ => rfl, fun _ => rfl, fun _ => rfl, fun _ => rfl, fun _ => rfl, fun _ => rfl, trivial⟩ ?_
                  exact ih _ _ _ _ _ _ _ _ _ _ _ _ _ _ _ _ _ _ _ _ q h hK
          · rw [if_pos hc7] at h
            refine zv_ald hB zd174_77 rfl rfl rfl ?_
            refine zv_getr hB zd174_78 rfl ?_
            refine zv_ild hB zd174_81 rfl rfl ?_
            refine zv_iald hB zd174_83 rfl rfl (zi_ix_ok c5).1 (zi_ix_ok c5).2 (fun _ _ => ?_)
            refine zv_goto hB zd174_84 rfl ?_
            refine zv_ist hB zd174_94 rfl rfl rfl ?_
            refine zv_ald hB zd174_96 rfl rfl rfl ?_
            refine zv_getr hB zd174_97 rfl ?_
            refine zv_ild hB zd174_100 rfl rfl ?_
            obtain ⟨c17, h⟩ := zi_if h
            refine zv_iald hB zd174_102 rfl rfl (zi_ix_ok c17).1 (zi_ix_ok c17).2 (fun _ _ => ?_)
            refine zv_con hB zd174_103 rfl ?_
            refine zv_cne hB zd174_104 rfl (fun hc18 => ?_) (fun hc18 => ?_)
            · rw [if_neg hc18] at h
              refine zv_ald hB zd174_123 rfl rfl rfl ?_
              refine zv_getr hB zd174_124 rfl ?_
              refine zv_ild hB zd174_127 rfl rfl ?_
              refine zv_ald hB zd174_129 rfl rfl rfl ?_
              refine zv_getr hB zd174_130 rfl ?_
              refine zv_ild hB zd174_133 rfl rfl ?_
              refine zv_iald hB zd174_135 rfl rfl (zi_ix_ok c17).1 (zi_ix_ok c17).2 (fun _ _ => ?_)
              refine zv_iast hB zd174_136 rfl rfl (zi_ix_ok c5).1 (zi_ix_ok c5).2 ?_
              refine zv_ald hB zd174_137 rfl rfl rfl ?_
              refine zv_getr hB zd174_138 rfl ?_
              refine zv_ild hB zd174_141 rfl rfl ?_
              refine zv_iald hB zd174_143 rfl rfl (zi_ix_ok c5).1 (zi_ix_ok c5).2 (fun _ _ => ?_)
              refine zv_ild hB zd174_144 rfl rfl ?_
              refine zv_cne hB zd174_146 rfl (fun hc19 => ?_) (fun hc19 => ?_)
              · rw [if_neg hc19] at h
                refine zv_iincw hB zd174_207 rfl rfl ?_
                refine zv_goto hB zd174_210 rfl ?_
                refine zv_wk hB (L' := [.inr 0, .inr 1, .inr 2, .inl x3, .inl x4, .inl x5, .inl x6, .inl (zi_w (x7 + 1)), .inr 1000, .inr 1000]) (F' := [.inl f0, .inl f1, .inr 7, .inr 9, .inl f4, .inl f5, .inl f6, .inl f7, .inl f8, .inl f9, .inl f10, .inl f11, .inl f12, .inl f13, .inl f14, .inl f15, .inl f16, .inl f17]) ⟨fun _ => rfl, fun _ => rfl, fun _ => rfl, fun _ => rfl, fun _ => rfl, fun _ => rfl, fun _ => rfl, fun _ => rfl, fun (h : zv_is (.inr 1000)) => (Nat.lt_irrefl 1000 h).elim, fun (h : zv_is (.inr 1000)) => (Nat.lt_irrefl 1000 h).elim, trivial⟩ ⟨fun _ => rfl, fun _ => rfl, fun _ => rfl, fun _ => rfl, fun _ => rfl, fun _ => rfl, fun _ => rfl, fun _ => rfl, fun _ => rfl, fun _ => rfl, fun _ => rfl, fun _ => rfl, fun _ => rfl, fun _ => rfl, fun _ => rfl, fun _ => rfl, fun _ => rfl, fun _ => rfl, trivial⟩ ?_
                exact ih _ _ _ _ _ _ _ _ _ _ _ _ _ _ _ _ _ _ _ _ q h hK
              · rw [if_pos hc19] at h
                refine zv_ild hB zd174_149 rfl rfl ?_
                refine zv_con hB zd174_151 rfl ?_
                refine zv_mulw hB zd174_154 ?_
                refine zv_ald hB zd174_155 rfl rfl rfl ?_
                refine zv_getr hB zd174_156 rfl ?_
                refine zv_ild hB zd174_159 rfl rfl ?_
                refine zv_iald hB zd174_161 rfl rfl (zi_ix_ok c5).1 (zi_ix_ok c5).2 (fun _ _ => ?_)
                refine zv_con hB zd174_162 rfl ?_
                refine zv_mulw hB zd174_164 ?_
                refine zv_ald hB zd174_165 rfl rfl rfl ?_
                refine zv_getr hB zd174_166 rfl ?_
                refine zv_ild hB zd174_169 rfl rfl ?_
                refine zv_iald hB zd174_171 rfl rfl (zi_ix_ok c5).1 (zi_ix_ok c5).2 (fun _ _ => ?_)
                refine zv_addw hB zd174_172 ?_
                refine zv_con hB zd174_173 rfl ?_
                refine zv_mulw hB zd174_175 ?_
                refine zv_addw hB zd174_176 ?_
                refine zv_ild hB zd174_177 rfl rfl ?_
                refine zv_addw hB zd174_178 ?_
                refine zv_ist hB zd174_179 rfl rfl rfl ?_
                refine zv_ald hB zd174_181 rfl rfl rfl ?_
                refine zv_ald hB zd174_182 rfl rfl rfl ?_
                refine zv_getf hB zd174_183 rfl rfl (fun _ _ => ?_)
                refine zv_con hB zd174_186 rfl ?_
                refine zv_cne hB zd174_187 rfl (fun hc20 => ?_) (fun hc20 => ?_)
                · rw [if_neg hc20] at h
                  refine zv_ald hB zd174_195 rfl rfl rfl ?_
                  refine zv_getf hB zd174_196 rfl rfl (fun _ _ => ?_)
                  refine zv_ild hB zd174_199 rfl rfl ?_
                  obtain ⟨r21, hr21, h⟩ := zi_bind h
                  refine zv_cs hB (zv_emq (va2 := [.inl f0, .inl (zi_w ((zi_w ((zi_w (x6 * 6912)) + (zi_w ((zi_w ((zi_w ((g3 x7) * 12)) + (g1 x7))) * 24)))) + x3))]) (F := [.inl f0, .inl f1, .inr 7, .inr 9, .inl f4, .inl f5, .inl f6, .inl f7, .inl f8, .inl f9, .inl f10, .inl f11, .inl f12, .inl f13, .inl f14, .inl f15, .inl f16, .inl f17]) (F' := [.inl f0, .inl f1, .inr 7, .inr 9, .inl f4, .inl f5, .inl f6, .inl f7, .inl f8, .inl f9, .inl f10, .inl f11, .inl f12, .inl f13, .inl f14, .inl f15, .inl f16, .inl f17]) (G := [g0, g1, (zv_up g2 x7 (g0 (g15 x7))), g3, g4, g5, g6, g7, g8, g9, g10, g11, g12, g13, g14, g15, g16, g17, g18]) (G' := [g0, g1, (zv_up g2 x7 (g0 (g15 x7))), g3, g4, g5, g6, g7, g8, g9, g10, g11, g12, g13, g14, g15, g16, g17, g18]) (ρ := []) (φ := []) (ψ := []) [none, none, none, none, none, none, none, none, none, none, none, none, none, none, none, none, none, none] [none, none, none, none, none, none, none, none, none, none, none, none, none, none, none, none, none, none, none] zyw_Math_min zyw_Pilot_followSecond zye_Pilot_followSecond (by decide +kernel) (zt_Math_min hr21) trivial trivial rfl rfl rfl rfl rfl rfl rfl) zd174_201 zxt37 rfl (by decide) (by decide) rfl ?_
                  refine zv_putf hB zd174_204 rfl rfl (fun h => by cases h) rfl ?_
                  refine zv_iincw hB zd174_207 rfl rfl ?_
                  refine zv_goto hB zd174_210 rfl ?_
                  refine zv_wk hB (L' := [.inr 0, .inr 1, .inr 2, .inl x3, .inl x4, .inl x5, .inl x6, .inl (zi_w (x7 + 1)), .inr 1000, .inr 1000]) (F' := [.inl r21, .inl f1, .inr 7, .inr 9, .inl f4, .inl f5, .inl f6, .inl f7, .inl f8, .inl f9, .inl f10, .inl f11, .inl f12, .inl f13, .inl f14, .inl f15, .inl f16, .inl f17]) ⟨fun _ => rfl, fun _ => rfl, fun _ => rfl, fun _ => rfl, fun _ => rfl, fun _ => rfl, fun _ => rfl, fun _ => rfl, fun (h : zv_is (.inr 1000)) => (Nat.lt_irrefl 1000 h).elim, fun (h : zv_is (.inr 1000)) => (Nat.lt_irrefl 1000 h).elim, trivial⟩ ⟨fun _ => rfl, fun _ => rfl, fun _ => rfl, fun _ => rfl, fun _ => rfl, fun _ => rfl, fun _ => rfl, fun _ => rfl, fun _ => rfl, fun _ => rfl, fun _ => rfl, fun _ => rfl, fun _ => rfl, fun _ => rfl, fun _ => rfl, fun _ => rfl, fun _ => rfl, fun _ => rfl, trivial⟩ ?_
                  exact ih _ _ _ _ _ _ _ _ _ _ _ _ _ _ _ _ _ _ _ _ q h hK
                · rw [if_pos hc20] at h
                  refine zv_ild hB zd174_190 rfl rfl ?_
                  refine zv_goto hB zd174_192 rfl ?_
                  refine zv_putf hB zd174_204 rfl rfl (fun h => by cases h) rfl ?_
                  refine zv_iincw hB zd174_207 rfl rfl ?_
                  refine zv_goto hB zd174_210 rfl ?_
                  refine zv_wk hB (L' := [.inr 0, .inr 1, .inr 2, .inl x3, .inl x4, .inl x5, .inl x6, .inl (zi_w (x7 + 1)), .inr 1000, .inr 1000]) (F' := [.inl (zi_w ((zi_w ((zi_w (x6 * 6912)) + (zi_w ((zi_w ((zi_w ((g3 x7) * 12)) + (g1 x7))) * 24)))) + x3)), .inl f1, .inr 7, .inr 9, .inl f4, .inl f5, .inl f6, .inl f7, .inl f8, .inl f9, .inl f10, .inl f11, .inl f12, .inl f13, .inl f14, .inl f15, .inl f16, .inl f17]) ⟨fun _ => rfl, fun _ => rfl, fun _ => rfl, fun _ => rfl, fun _ => rfl, fun _ => rfl, fun _ => rfl, fun _ => rfl, fun (h : zv_is (.inr 1000)) => (Nat.lt_irrefl 1000 h).elim, fun (h : zv_is (.inr 1000)) => (Nat.lt_irrefl 1000 h).elim, trivial⟩ ⟨fun _ => rfl, fun _ => rfl, fun _ => rfl, fun _ => rfl, fun _ => rfl, fun _ => rfl, fun _ => rfl, fun _ => rfl, fun _ => rfl, fun _ => rfl, fun _ => rfl, fun _ => rfl, fun _ => rfl, fun _ => rfl, fun _ => rfl, fun _ => rfl, fun _ => rfl, fun _ => rfl, trivial⟩ ?_
                  exact ih _ _ _ _ _ _ _ _ _ _ _ _ _ _ _ _ _ _ _ _ q h hK
            · rw [if_pos hc18] at h
              refine zv_ald hB zd174_107 rfl rfl rfl ?_
              refine zv_getr hB zd174_108 rfl ?_
              refine zv_ild hB zd174_111 rfl rfl ?_
              refine zv_ald hB zd174_113 rfl rfl rfl ?_
              refine zv_ald hB zd174_114 rfl rfl rfl ?_
              refine zv_ald hB zd174_115 rfl rfl rfl ?_
              refine zv_ild hB zd174_116 rfl rfl ?_
              refine zv_ild hB zd174_118 rfl rfl ?_
              obtain ⟨r22, hr22, h⟩ := zi_bind h
              refine zv_cv hB (zv_emq (va2 := [.inr 0, .inr 1, .inr 2, .inl (g15 x7), .inl x3]) (F := [.inl f0, .inl f1, .inr 7, .inr 9, .inl f4, .inl f5, .inl f6, .inl f7, .inl f8, .inl f9, .inl f10, .inl f11, .inl f12, .inl f13, .inl f14, .inl f15, .inl f16, .inl f17]) (F' := [.inl f0, .inl f1, .inr 7, .inr 9, .inl r22.2.1, .inl r22.2.2.1, .inl f6, .inl f7, .inl f8, .inl f9, .inl f10, .inl f11, .inl f12, .inl r22.2.2.2.1, .inl r22.2.2.2.2.1, .inl f15, .inl r22.2.2.2.2.2.1, .inl f17]) (G := [g0, g1, g2, g3, g4, g5, g6, g7, g8, g9, g10, g11, g12, g13, g14, g15, g16, g17, g18]) (G' := [g0, g1, g2, g3, r22.2.2.2.2.2.2.1, g5, g6, g7, g8, g9, g10, g11, r22.2.2.2.2.2.2.2, g13, g14, g15, g16, g17, g18]) (ρ := [0, 1, 2, 7, 8, 9, 10, 11, 12, 13, 14, 15, 16, 17, 18, 19]) (φ := [2, 3, 4, 5, 6, 7, 8, 9, 10, 11, 12, 13, 14, 15, 16, 17]) (ψ := [4, 5, 6, 7, 8, 9, 10, 11, 12, 13, 14]) [none, none, some 0, some 1, some 2, some 3, some 4, some 5, some 6, some 7, some 8, some 9, some 10, some 11, some 12, some 13, some 14, some 15] [none, none, none, none, some 0, some 1, some 2, some 3, some 4, some 5, some 6, some 7, some 8, some 9, some 10, none, none, none, none] zyw_Pilot_step zyw_Pilot_followSecond zye_Pilot_followSecond (by decide +kernel) (zt_Pilot_step hr22) ⟨⟨_, rfl, fun _ => rfl⟩, ⟨_, rfl, fun _ => rfl⟩, ⟨_, rfl, fun _ => rfl⟩, ⟨_, rfl, fun _ => rfl⟩, ⟨_, rfl, fun _ => rfl⟩, ⟨_, rfl, fun _ => rfl⟩, ⟨_, rfl, fun _ => rfl⟩, ⟨_, rfl, fun _ => rfl⟩, ⟨_, rfl, fun _ => rfl⟩, ⟨_, rfl, fun _ => rfl⟩, ⟨_, rfl, fun _ => rfl⟩, ⟨_, rfl, fun _ => rfl⟩, ⟨_, rfl, fun _ => rfl⟩, ⟨_, rfl, fun _ => rfl⟩, ⟨_, rfl, fun _ => rfl⟩, ⟨_, rfl, fun _ => rfl⟩, trivial⟩ ⟨rfl, rfl, rfl, rfl, rfl, rfl, rfl, rfl, rfl, rfl, rfl, trivial⟩ rfl rfl rfl rfl rfl rfl rfl) zd174_119 zxt153 rfl (by decide) (by decide) rfl ?_
              refine zv_iast hB zd174_122 rfl rfl (zi_ix_ok c17).1 (zi_ix_ok c17).2 ?_
              refine zv_ald hB zd174_123 rfl rfl rfl ?_
              refine zv_getr hB zd174_124 rfl ?_
              refine zv_ild hB zd174_127 rfl rfl ?_
              refine zv_ald hB zd174_129 rfl rfl rfl ?_
              refine zv_getr hB zd174_130 rfl ?_
              refine zv_ild hB zd174_133 rfl rfl ?_
              refine zv_iald hB zd174_135 rfl rfl (zi_ix_ok c17).1 (zi_ix_ok c17).2 (fun _ _ => ?_)
              refine zv_iast hB zd174_136 rfl rfl (zi_ix_ok c5).1 (zi_ix_ok c5).2 ?_
              refine zv_ald hB zd174_137 rfl rfl rfl ?_
              refine zv_getr hB zd174_138 rfl ?_
              refine zv_ild hB zd174_141 rfl rfl ?_
              refine zv_iald hB zd174_143 rfl rfl (zi_ix_ok c5).1 (zi_ix_ok c5).2 (fun _ _ => ?_)
              refine zv_ild hB zd174_144 rfl rfl ?_
              refine zv_cne hB zd174_146 rfl (fun hc23 => ?_) (fun hc23 => ?_)
              · rw [if_neg hc23] at h
                refine zv_iincw hB zd174_207 rfl rfl ?_
                refine zv_goto hB zd174_210 rfl ?_
                refine zv_wk hB (L' := [.inr 0, .inr 1, .inr 2, .inl x3, .inl x4, .inl x5, .inl x6, .inl (zi_w (x7 + 1)), .inr 1000, .inr 1000]) (F' := [.inl f0, .inl f1, .inr 7, .inr 9, .inl r22.2.1, .inl r22.2.2.1, .inl f6, .inl f7, .inl f8, .inl f9, .inl f10, .inl f11, .inl f12, .inl r22.2.2.2.1, .inl r22.2.2.2.2.1, .inl f15, .inl r22.2.2.2.2.2.1, .inl f17]) ⟨fun _ => rfl, fun _ => rfl, fun _ => rfl, fun _ => rfl, fun _ => rfl, fun _ => rfl, fun _ => rfl, fun _ => rfl, fun (h : zv_is (.inr 1000)) => (Nat.lt_irrefl 1000 h).elim, fun (h : zv_is (.inr 1000)) => (Nat.lt_irrefl 1000 h).elim, trivial⟩ ⟨fun _ => rfl, fun _ => rfl, fun _ => rfl, fun _ => rfl, fun _ => rfl, fun _ => rfl, fun _ => rfl, fun _ => rfl, fun _ => rfl, fun _ => rfl, fun _ => rfl, fun _ => rfl, fun _ => rfl, fun _ => rfl, fun _ => rfl, fun _ => rfl, fun _ => rfl, fun _ => rfl, trivial⟩ ?_
                exact ih _ _ _ _ _ _ _ _ _ _ _ _ _ _ _ _ _ _ _ _ q h hK
              · rw [if_pos hc23] at h
                refine zv_ild hB zd174_149 rfl rfl ?_
                refine zv_con hB zd174_151 rfl ?_
                refine zv_mulw hB zd174_154 ?_
                refine zv_ald hB zd174_155 rfl rfl rfl ?_
                refine zv_getr hB zd174_156 rfl ?_
                refine zv_ild hB zd174_159 rfl rfl ?_
                refine zv_iald hB zd174_161 rfl rfl (zi_ix_ok c5).1 (zi_ix_ok c5).2 (fun _ _ => ?_)
                refine zv_con hB zd174_162 rfl ?_
                refine zv_mulw hB zd174_164 ?_
                refine zv_ald hB zd174_165 rfl rfl rfl ?_
                refine zv_getr hB zd174_166 rfl ?_
                refine zv_ild hB zd174_169 rfl rfl ?_
                refine zv_iald hB zd174_171 rfl rfl (zi_ix_ok c5).1 (zi_ix_ok c5).2 (fun _ _ => ?_)
                refine zv_addw hB zd174_172 ?_
                refine zv_con hB zd174_173 rfl ?_
                refine zv_mulw hB zd174_175 ?_
                refine zv_addw hB zd174_176 ?_
                refine zv_ild hB zd174_177 rfl rfl ?_
                refine zv_addw hB zd174_178 ?_
                refine zv_ist hB zd174_179 rfl rfl rfl ?_
                refine zv_ald hB zd174_181 rfl rfl rfl ?_
                refine zv_ald hB zd174_182 rfl rfl rfl ?_
                refine zv_getf hB zd174_183 rfl rfl (fun _ _ => ?_)
                refine zv_con hB zd174_186 rfl ?_
                refine zv_cne hB zd174_187 rfl (fun hc24 => ?_) (fun hc24 => ?_)
                · rw [if_neg hc24] at h
                  refine zv_ald hB zd174_195 rfl rfl rfl ?_
                  refine zv_getf hB zd174_196 rfl rfl (fun _ _ => ?_)
                  refine zv_ild hB zd174_199 rfl rfl ?_
                  obtain ⟨r25, hr25, h⟩ := zi_bind h
                  refine zv_cs hB (zv_emq (va2 := [.inl f0, .inl (zi_w ((zi_w ((zi_w (x6 * 6912)) + (zi_w ((zi_w ((zi_w ((g3 x7) * 12)) + (g1 x7))) * 24)))) + x3))]) (F := [.inl f0, .inl f1, .inr 7, .inr 9, .inl r22.2.1, .inl r22.2.2.1, .inl f6, .inl f7, .inl f8, .inl f9, .inl f10, .inl f11, .inl f12, .inl r22.2.2.2.1, .inl r22.2.2.2.2.1, .inl f15, .inl r22.2.2.2.2.2.1, .inl f17]) (F' := [.inl f0, .inl f1, .inr 7, .inr 9, .inl r22.2.1, .inl r22.2.2.1, .inl f6, .inl f7, .inl f8, .inl f9, .inl f10, .inl f11, .inl f12, .inl r22.2.2.2.1, .inl r22.2.2.2.2.1, .inl f15, .inl r22.2.2.2.2.2.1, .inl f17]) (G := [(zv_up g0 (g15 x7) r22.1), g1, (zv_up g2 x7 ((zv_up g0 (g15 x7) r22.1) (g15 x7))), g3, r22.2.2.2.2.2.2.1, g5, g6, g7, g8, g9, g10, g11, r22.2.2.2.2.2.2.2, g13, g14, g15, g16, g17, g18]) (G' := [(zv_up g0 (g15 x7) r22.1), g1, (zv_up g2 x7 ((zv_up g0 (g15 x7) r22.1) (g15 x7))), g3, r22.2.2.2.2.2.2.1, g5, g6, g7, g8, g9, g10, g11, r22.2.2.2.2.2.2.2, g13, g14, g15, g16, g17, g18]) (ρ := []) (φ := []) (ψ := []) [none, none, none, none, none, none, none, none, none, none, none, none, none, none, none, none, none, none] [none, none, none, none, none, none, none, none, none, none, none, none, none, none, none, none, none, none, none] zyw_Math_min zyw_Pilot_followSecond zye_Pilot_followSecond (by decide +kernel) (zt_Math_min hr25) trivial trivial rfl rfl rfl rfl rfl rfl rfl) zd174_201 zxt37 rfl (by decide) (by decide) rfl ?_
                  refine zv_putf hB zd174_204 rfl rfl (fun h => by cases h) rfl ?_
                  refine zv_iincw hB zd174_207 rfl rfl ?_
                  refine zv_goto hB zd174_210 rfl ?_
                  refine zv_wk hB (L' := [.inr 0, .inr 1, .inr 2, .inl x3, .inl x4, .inl x5, .inl x6, .inl (zi_w (x7 + 1)), .inr 1000, .inr 1000]) (F' := [.inl r25, .inl f1, .inr 7, .inr 9, .inl r22.2.1, .inl r22.2.2.1, .inl f6, .inl f7, .inl f8, .inl f9, .inl f10, .inl f11, .inl f12, .inl r22.2.2.2.1, .inl r22.2.2.2.2.1, .inl f15, .inl r22.2.2.2.2.2.1, .inl f17]) ⟨fun _ => rfl, fun _ => rfl, fun _ => rfl, fun _ => rfl, fun _ => rfl, fun _ => rfl, fun _ => rfl, fun _ => rfl, fun (h : zv_is (.inr 1000)) => (Nat.lt_irrefl 1000 h).elim, fun (h : zv_is (.inr 1000)) => (Nat.lt_irrefl 1000 h).elim, trivial⟩ ⟨fun _ => rfl, fun _ => rfl, fun _ => rfl, fun _ => rfl, fun _ => rfl, fun _ => rfl, fun _ => rfl, fun _ => rfl, fun _ => rfl, fun _ => rfl, fun _ => rfl, fun _ => rfl, fun _ => rfl, fun _ => rfl, fun _ => rfl, fun _ => rfl, fun _ => rfl, fun _ => rfl, trivial⟩ ?_
                  exact ih _ _ _ _ _ _ _ _ _ _ _ _ _ _ _ _ _ _ _ _ q h hK
                · rw [if_pos hc24] at h
                  refine zv_ild hB zd174_190 rfl rfl ?_
                  refine zv_goto hB zd174_192 rfl ?_
                  refine zv_putf hB zd174_204 rfl rfl (fun h => by cases h) rfl ?_
                  refine zv_iincw hB zd174_207 rfl rfl ?_
                  refine zv_goto hB zd174_210 rfl ?_
                  refine zv_wk hB (L' := [.inr 0, .inr 1, .inr 2, .inl x3, .inl x4, .inl x5, .inl x6, .inl (zi_w (x7 + 1)), .inr 1000, .inr 1000]) (F' := [.inl (zi_w ((zi_w ((zi_w (x6 * 6912)) + (zi_w ((zi_w ((zi_w ((g3 x7) * 12)) + (g1 x7))) * 24)))) + x3)), .inl f1, .inr 7, .inr 9, .inl r22.2.1, .inl r22.2.2.1, .inl f6, .inl f7, .inl f8, .inl f9, .inl f10, .inl f11, .inl f12, .inl r22.2.2.2.1, .inl r22.2.2.2.2.1, .inl f15, .inl r22.2.2.2.2.2.1, .inl f17]) ⟨fun _ => rfl, fun _ => rfl, fun _ => rfl, fun _ => rfl, fun _ => rfl, fun _ => rfl, fun _ => rfl, fun _ => rfl, fun (h : zv_is (.inr 1000)) => (Nat.lt_irrefl 1000 h).elim, fun (h : zv_is (.inr 1000)) => (Nat.lt_irrefl 1000 h).elim, trivial⟩ ⟨fun _ => rfl, fun _ => rfl, fun _ => rfl, fun _ => rfl, fun _ => rfl, fun _ => rfl, fun _ => rfl, fun _ => rfl, fun _ => rfl, fun _ => rfl, fun _ => rfl, fun _ => rfl, fun _ => rfl, fun _ => rfl, fun _ => rfl, fun _ => rfl, fun _ => rfl, fun _ => rfl, trivial⟩ ?_
                  exact ih _ _ _ _ _ _ _ _ _ _ _ _ _ _ _ _ _ _ _ _ q h hK
  have l0 : ∀ (n : Nat) (x3 : Int) (x4 : Int) (x5 : Int) (x6 : Int) (f0 : Int) (f4 : Int) (f5 : Int) (f6 : Int) (f7 : Int) (f13 : Int) (f14 : Int) (f16 : Int) (g0 : (Int → Int)) (g2 : (Int → Int)) (g4 : (Int → Int)) (g5 : (Int → Int)) (g6 : (Int → Int)) (g12 : (Int → Int)) (g18 : (Int → Int)) (q : Int × Int × Int × Int × Int × Int × Int × Int × (Int → Int) × (Int → Int) × (Int → Int) × (Int → Int) × (Int → Int) × (Int → Int) × (Int → Int)), zf_Pilot_followSecond_l0 x3 x4 x5 f1 f8 f9 f10 f11 f12 f15 f17 g1 g3 g7 g8 g9 g10 g11 g13 g14 g15 g16 g17 n x6 f0 f4 f5 f6 f7 f13 f14 f16 g0 g2 g4 g5 g6 g12 g18 = some q → (good 224 [.inr 1000, .inr 1000, .inr 1000, .inr 1000, .inr 1000, .inr 1000, .inr 1000, .inr 1000, .inr 1000, .inr 1000] [] [.inl q.1, .inl f1, .inr 7, .inr 9, .inl q.2.1, .inl q.2.2.1, .inl q.2.2.2.1, .inl q.2.2.2.2.1, .inl f8, .inl f9, .inl f10, .inl f11, .inl f12, .inl q.2.2.2.2.2.1, .inl q.2.2.2.2.2.2.1, .inl f15, .inl q.2.2.2.2.2.2.2.1, .inl f17] [q.2.2.2.2.2.2.2.2.1, g1, q.2.2.2.2.2.2.2.2.2.1, g3, q.2.2.2.2.2.2.2.2.2.2.1, q.2.2.2.2.2.2.2.2.2.2.2.1, q.2.2.2.2.2.2.2.2.2.2.2.2.1, g7, g8, g9, g10, g11, q.2.2.2.2.2.2.2.2.2.2.2.2.2.1, g13, g14, g15, g16, g17, q.2.2.2.2.2.2.2.2.2.2.2.2.2.2]) → good 3 [.inr 0, .inr 1, .inr 2, .inl x3, .inl x4, .inl x5, .inl x6, .inr 1000, .inr 1000, .inr 1000] [] [.inl f0, .inl f1, .inr 7, .inr 9, .inl f4, .inl f5, .inl f6, .inl f7, .inl f8, .inl f9, .inl f10, .inl f11, .inl f12, .inl f13, .inl f14, .inl f15, .inl f16, .inl f17] [g0, g1, g2, g3, g4, g5, g6, g7, g8, g9, g10, g11, g12, g13, g14, g15, g16, g17, g18] := by
    intro n
    induction n with
    | zero => intro x3 x4 x5 x6 f0 f4 f5 f6 f7 f13 f14 f16 g0 g2 g4 g5 g6 g12 g18 q h; exact absurd (show none = some q from h) (fun h => by cases h)
    | succ n ih =>
      intro x3 x4 x5 x6 f0 f4 f5 f6 f7 f13 f14 f16 g0 g2 g4 g5 g6 g12 g18 q h hK
      replace h : zf_Pilot_followSecond_l0_b x3 x4 x5 f1 f8 f9 f10 f11 f12 f15 f17 g1 g3 g7 g8 g9 g10 g11 g13 g14 g15 g16 g17 (zf_Pilot_followSecond_l0 x3 x4 x5 f1 f8 f9 f10 f11 f12 f15 f17 g1 g3 g7 g8 g9 g10 g11 g13 g14 g15 g16 g17 n) x6 f0 f4 f5 f6 f7 f13 f14 f16 g0 g2 g4 g5 g6 g12 g18 = some q := h
      unfold zf_Pilot_followSecond_l0_b at h
      refine zv_ild hB zd174_3 rfl rfl ?_
      refine zv_ild hB zd174_5 rfl rfl ?_
      refine zv_cgt hB zd174_7 rfl (fun hc1 => ?_) (fun hc1 => ?_)
      · rw [if_pos hc1] at h
        have hq := Option.some.inj h
        subst hq
        refine zv_wk hB (L' := [.inr 1000, .inr 1000, .inr 1000, .inr 1000, .inr 1000, .inr 1000, .inr 1000, .inr 1000, .inr 1000, .inr 1000]) (F' := [.inl f0, .inl f1, .inr 7, .inr 9, .inl f4, .inl f5, .inl f6, .inl f7, .inl f8, .inl f9, .inl f10, .inl f11, .inl f12, .inl f13, .inl f14, .inl f15, .inl f16, .inl f17]) ⟨fun (h : zv_is (.inr 1000)) => (Nat.lt_irrefl 1000 h).elim, fun (h : zv_is (.inr 1000)) => (Nat.lt_irrefl 1000 h).elim, fun (h : zv_is (.inr 1000)) => (Nat.lt_irrefl 1000 h).elim, fun (h : zv_is (.inr 1000)) => (Nat.lt_irrefl 1000 h).elim, fun (h : zv_is (.inr 1000)) => (Nat.lt_irrefl 1000 h).elim, fun (h : zv_is (.inr 1000)) => (Nat.lt_irrefl 1000 h).elim, fun (h : zv_is (.inr 1000)) => (Nat.lt_irrefl 1000 h).elim, fun (h : zv_is (.inr 1000)) => (Nat.lt_irrefl 1000 h).elim, fun (h : zv_is (.inr 1000)) => (Nat.lt_irrefl 1000 h).elim, fun (h : zv_is (.inr 1000)) => (Nat.lt_irrefl 1000 h).elim, trivial⟩ ⟨fun _ => rfl, fun _ => rfl, fun _ => rfl, fun _ => rfl, fun _ => rfl, fun _ => rfl, fun _ => rfl, fun _ => rfl, fun _ => rfl, fun _ => rfl, fun _ => rfl, fun _ => rfl, fun _ => rfl, fun _ => rfl, fun _ => rfl, fun _ => rfl, fun _ => rfl, fun _ => rfl, trivial⟩ ?_
        exact hK
      · rw [if_neg (Int.not_lt.mpr hc1)] at h
        refine zv_ald hB zd174_10 rfl rfl rfl ?_
        refine zv_getf hB zd174_11 rfl rfl (fun _ _ => ?_)
        refine zv_con hB zd174_14 rfl ?_
        refine zv_ceq hB zd174_15 rfl (fun hc2 => ?_) (fun hc2 => ?_)
        · rw [if_pos hc2] at h
          refine zv_ald hB zd174_31 rfl rfl rfl ?_
          refine zv_getr hB zd174_32 rfl ?_
          refine zv_con hB zd174_35 rfl ?_
          obtain ⟨r3, hr3, h⟩ := zi_bind h
          refine zv_cs hB (zv_emq (va2 := [.inr 3, .inl (-1)]) (F := [.inl f0, .inl f1, .inr 7, .inr 9, .inl f4, .inl f5, .inl f6, .inl f7, .inl f8, .inl f9, .inl f10, .inl f11, .inl f12, .inl f13, .inl f14, .inl f15, .inl f16, .inl f17]) (F' := [.inl f0, .inl f1, .inr 7, .inr 9, .inl f4, .inl f5, .inl f6, .inl f7, .inl f8, .inl f9, .inl f10, .inl f11, .inl f12, .inl f13, .inl f14, .inl f15, .inl f16, .inl f17]) (G := [g0, g1, g2, g3, g4, g5, g6, g7, g8, g9, g10, g11, g12, g13, g14, g15, g16, g17, g18]) (G' := [r3, g1, g2, g3, g4, g5, g6, g7, g8, g9, g10, g11, g12, g13, g14, g15, g16, g17, g18]) (ρ := [3]) (φ := []) (ψ := [0]) [none, none, none, none, none, none, none, none, none, none, none, none, none, none, none, none, none, none] [some 0, none, none, none, none, none, none, none, none, none, none, none, none, none, none, none, none, none, none] zyw_Arrays_fill_288 zyw_Pilot_followSecond zye_Pilot_followSecond (by decide +kernel) (zt_Arrays_fill_288 hr3) trivial ⟨rfl, trivial⟩ rfl rfl rfl rfl rfl rfl rfl) zd174_36 zxt78 rfl (by decide) (by decide) rfl ?_
          refine zv_con hB zd174_39 rfl ?_
          refine zv_ist hB zd174_40 rfl rfl rfl ?_
          obtain ⟨q26, hq26, h⟩ := zi_bind h
          refine l1 _ _ _ _ _ _ _ _ _ _ _ _ _ _ _ _ _ _ _ _ _ q26 hq26 ?_
          show good 213 [.inr 0, .inr 1, .inr 2, .inl x3, .inl x4, .inl x5, .inl x6, .inr 1000, .inr 1000, .inr 1000] [] [.inl q26.1, .inl f1, .inr 7, .inr 9, .inl q26.2.1, .inl q26.2.2.1, .inl f6, .inl f7, .inl f8, .inl f9, .inl f10, .inl f11, .inl f12, .inl q26.2.2.2.1, .inl q26.2.2.2.2.1, .inl f15, .inl q26.2.2.2.2.2.1, .inl f17] [q26.2.2.2.2.2.2.1, g1, q26.2.2.2.2.2.2.2.1, g3, q26.2.2.2.2.2.2.2.2.1, g5, g6, g7, g8, g9, g10, g11, q26.2.2.2.2.2.2.2.2.2, g13, g14, g15, g16, g17, g18]
          refine zv_ald hB zd174_213 rfl rfl rfl ?_
          refine zv_ald hB zd174_214 rfl rfl rfl ?_
          obtain ⟨r27, hr27, h⟩ := zi_bind h
          refine zv_cv hB (zv_emq (va2 := [.inr 0, .inr 1]) (F := [.inl q26.1, .inl f1, .inr 7, .inr 9, .inl q26.2.1, .inl q26.2.2.1, .inl f6, .inl f7, .inl f8, .inl f9, .inl f10, .inl f11, .inl f12, .inl q26.2.2.2.1, .inl q26.2.2.2.2.1, .inl f15, .inl q26.2.2.2.2.2.1, .inl f17]) (F' := [.inl q26.1, .inl f1, .inr 7, .inr 9, .inl q26.2.1, .inl q26.2.2.1, .inl r27.1, .inl r27.2.1, .inl f8, .inl f9, .inl f10, .inl f11, .inl f12, .inl r27.2.2.1, .inl q26.2.2.2.2.1, .inl f15, .inl q26.2.2.2.2.2.1, .inl f17]) (G := [q26.2.2.2.2.2.2.1, g1, q26.2.2.2.2.2.2.2.1, g3, q26.2.2.2.2.2.2.2.2.1, g5, g6, g7, g8, g9, g10, g11, q26.2.2.2.2.2.2.2.2.2, g13, g14, g15, g16, g17, g18]) (G' := [q26.2.2.2.2.2.2.1, g1, q26.2.2.2.2.2.2.2.1, g3, q26.2.2.2.2.2.2.2.2.1, r27.2.2.2.1, r27.2.2.2.2.1, g7, g8, g9, g10, g11, q26.2.2.2.2.2.2.2.2.2, g13, g14, g15, g16, g17, r27.2.2.2.2.2]) (ρ := [0, 1, 9, 10, 21, 11, 22, 7, 23]) (φ := [3, 6, 7, 2, 13]) (ψ := [5, 16, 6, 17, 18]) [none, none, some 3, some 0, none, none, some 1, some 2, none, none, none, none, none, some 4, none, none, none, none] [none, none, none, none, none, some 0, some 2, none, none, none, none, none, none, none, none, none, some 1, some 3, some 4] zyw_Pilot_turnOnward zyw_Pilot_followSecond zye_Pilot_followSecond (by decide +kernel) (zt_Pilot_turnOnward hr27) ⟨⟨_, rfl, fun _ => rfl⟩, ⟨_, rfl, fun _ => rfl⟩, ⟨_, rfl, fun _ => rfl⟩, ⟨_, rfl, fun _ => rfl⟩, ⟨_, rfl, fun _ => rfl⟩, trivial⟩ ⟨rfl, rfl, rfl, rfl, rfl, trivial⟩ rfl rfl rfl rfl rfl rfl rfl) zd174_215 zxt169 rfl (by decide) (by decide) rfl ?_
          refine zv_iincw hB zd174_218 rfl rfl ?_
          refine zv_goto hB zd174_221 rfl ?_
          exact ih _ _ _ _ _ _ _ _ _ _ _ _ _ _ _ _ _ _ _ q h hK
        · rw [if_neg hc2] at h
          refine zv_ild hB zd174_18 rfl rfl ?_
          refine zv_ald hB zd174_20 rfl rfl rfl ?_
          refine zv_getf hB zd174_21 rfl rfl (fun _ _ => ?_)
          refine zv_con hB zd174_24 rfl ?_
          refine zv_divw hB zd174_27 (by decide) ?_
          refine zv_cgt hB zd174_28 rfl (fun hc28 => ?_) (fun hc28 => ?_)
          · rw [if_pos hc28] at h
            have hq := Option.some.inj h
            subst hq
            refine zv_wk hB (L' := [.inr 1000, .inr 1000, .inr 1000, .inr 1000, .inr 1000, .inr 1000, .inr 1000, .inr 1000, .inr 1000, .inr 1000]) (F' := [.inl f0, .inl f1, .inr 7, .inr 9, .inl f4, .inl f5, .inl f6, .inl f7, .inl f8, .inl f9, .inl f10, .inl f11, .inl f12, .inl f13, .inl f14, .inl f15, .inl f16, .inl f17]) ⟨fun (h : zv_is (.inr 1000)) => (Nat.lt_irrefl 1000 h).elim, fun (h : zv_is (.inr 1000)) => (Nat.lt_irrefl 1000 h).elim, fun (h : zv_is (.inr 1000)) => (Nat.lt_irrefl 1000 h).elim, fun (h : zv_is (.inr 1000)) => (Nat.lt_irrefl 1000 h).elim, fun (h : zv_is (.inr 1000)) => (Nat.lt_irrefl 1000 h).elim, fun (h : zv_is (.inr 1000)) => (Nat.lt_irrefl 1000 h).elim, fun (h : zv_is (.inr 1000)) => (Nat.lt_irrefl 1000 h).elim, fun (h : zv_is (.inr 1000)) => (Nat.lt_irrefl 1000 h).elim, fun (h : zv_is (.inr 1000)) => (Nat.lt_irrefl 1000 h).elim, fun (h : zv_is (.inr 1000)) => (Nat.lt_irrefl 1000 h).elim, trivial⟩ ⟨fun _ => rfl, fun _ => rfl, fun _ => rfl, fun _ => rfl, fun _ => rfl, fun _ => rfl, fun _ => rfl, fun _ => rfl, fun _ => rfl, fun _ => rfl, fun _ => rfl, fun _ => rfl, fun _ => rfl, fun _ => rfl, fun _ => rfl, fun _ => rfl, fun _ => rfl, fun _ => rfl, trivial⟩ ?_
            exact hK
          · rw [if_neg (Int.not_lt.mpr hc28)] at h
            refine zv_ald hB zd174_31 rfl rfl rfl ?_
            refine zv_getr hB zd174_32 rfl ?_
            refine zv_con hB zd174_35 rfl ?_
            obtain ⟨r29, hr29, h⟩ := zi_bind h
            refine zv_cs hB (zv_emq (va2 := [.inr 3, .inl (-1)]) (F := [.inl f0, .inl f1, .inr 7, .inr 9, .inl f4, .inl f5, .inl f6, .inl f7, .inl f8, .inl f9, .inl f10, .inl f11, .inl f12, .inl f13, .inl f14, .inl f15, .inl f16, .inl f17]) (F' := [.inl f0, .inl f1, .inr 7, .inr 9, .inl f4, .inl f5, .inl f6, .inl f7, .inl f8, .inl f9, .inl f10, .inl f11, .inl f12, .inl f13, .inl f14, .inl f15, .inl f16, .inl f17]) (G := [g0, g1, g2, g3, g4, g5, g6, g7, g8, g9, g10, g11, g12, g13, g14, g15, g16, g17, g18]) (G' := [r29, g1, g2, g3, g4, g5, g6, g7, g8, g9, g10, g11, g12, g13, g14, g15, g16, g17, g18]) (ρ := [3]) (φ := []) (ψ := [0]) [none, none, none, none, none, none, none, none, none, none, none, none, none, none, none, none, none, none] [some 0, none, none, none, none, none, none, none, none, none, none, none, none, none, none, none, none, none, none] zyw_Arrays_fill_288 zyw_Pilot_followSecond zye_Pilot_followSecond (by decide +kernel) (zt_Arrays_fill_288 hr29) trivial ⟨rfl, trivial⟩ rfl rfl rfl rfl rfl rfl rfl) zd174_36 zxt78 rfl (by decide) (by decide) rfl ?_
            refine zv_con hB zd174_39 rfl ?_
            refine zv_ist hB zd174_40 rfl rfl rfl ?_
            obtain ⟨q30, hq30, h⟩ := zi_bind h
            refine l1 _ _ _ _ _ _ _ _ _ _ _ _ _ _ _ _ _ _ _ _ _ q30 hq30 ?_
            show good 213 [.inr 0, .inr 1, .inr 2, .inl x3, .inl x4, .inl x5, .inl x6, .inr 1000, .inr 1000, .inr 1000] [] [.inl q30.1, .inl f1, .inr 7, .inr 9, .inl q30.2.1, .inl q30.2.2.1, .inl f6, .inl f7, .inl f8, .inl f9, .inl f10, .inl f11, .inl f12, .inl q30.2.2.2.1, .inl q30.2.2.2.2.1, .inl f15, .inl q30.2.2.2.2.2.1, .inl f17] [q30.2.2.2.2.2.2.1, g1, q30.2.2.2.2.2.2.2.1, g3, q30.2.2.2.2.2.2.2.2.1, g5, g6, g7, g8, g9, g10, g11, q30.2.2.2.2.2.2.2.2.2, g13, g14, g15, g16, g17, g18]
            refine zv_ald hB zd174_213 rfl rfl rfl ?_
            refine zv_ald hB zd174_214 rfl rfl rfl ?_
            obtain ⟨r31, hr31, h⟩ := zi_bind h
            refine zv_cv hB (zv_emq (va2 := [.inr 0, .inr 1]) (F := [.inl q30.1, .inl f1, .inr 7, .inr 9, .inl q30.2.1, .inl q30.2.2.1, .inl f6, .inl f7, .inl f8, .inl f9, .inl f10, .inl f11, .inl f12, .inl q30.2.2.2.1, .inl q30.2.2.2.2.1, .inl f15, .inl q30.2.2.2.2.2.1, .inl f17]) (F' := [.inl q30.1, .inl f1, .inr 7, .inr 9, .inl q30.2.1, .inl q30.2.2.1, .inl r31.1, .inl r31.2.1, .inl f8, .inl f9, .inl f10, .inl f11, .inl f12, .inl r31.2.2.1, .inl q30.2.2.2.2.1, .inl f15, .inl q30.2.2.2.2.2.1, .inl f17]) (G := [q30.2.2.2.2.2.2.1, g1, q30.2.2.2.2.2.2.2.1, g3, q30.2.2.2.2.2.2.2.2.1, g5, g6, g7, g8, g9, g10, g11, q30.2.2.2.2.2.2.2.2.2, g13, g14, g15, g16, g17, g18]) (G' := [q30.2.2.2.2.2.2.1, g1, q30.2.2.2.2.2.2.2.1, g3, q30.2.2.2.2.2.2.2.2.1, r31.2.2.2.1, r31.2.2.2.2.1, g7, g8, g9, g10, g11, q30.2.2.2.2.2.2.2.2.2, g13, g14, g15, g16, g17, r31.2.2.2.2.2]) (ρ := [0, 1, 9, 10, 21, 11, 22, 7, 23]) (φ := [3, 6, 7, 2, 13]) (ψ := [5, 16, 6, 17, 18]) [none, none, some 3, some 0, none, none, some 1, some 2, none, none, none, none, none, some 4, none, none, none, none] [none, none, none, none, none, some 0, some 2, none, none, none, none, none, none, none, none, none, some 1, some 3, some 4] zyw_Pilot_turnOnward zyw_Pilot_followSecond zye_Pilot_followSecond (by decide +kernel) (zt_Pilot_turnOnward hr31) ⟨⟨_, rfl, fun _ => rfl⟩, ⟨_, rfl, fun _ => rfl⟩, ⟨_, rfl, fun _ => rfl⟩, ⟨_, rfl, fun _ => rfl⟩, ⟨_, rfl, fun _ => rfl⟩, trivial⟩ ⟨rfl, rfl, rfl, rfl, rfl, trivial⟩ rfl rfl rfl rfl rfl rfl rfl) zd174_215 zxt169 rfl (by decide) (by decide) rfl ?_
            refine zv_iincw hB zd174_218 rfl rfl ?_
            refine zv_goto hB zd174_221 rfl ?_
            exact ih _ _ _ _ _ _ _ _ _ _ _ _ _ _ _ _ _ _ _ q h hK
  unfold zf_Pilot_followSecond at h
  refine zv_con hB zd174_0 rfl ?_
  refine zv_ist hB zd174_1 rfl rfl rfl ?_
  obtain ⟨q32, hq32, h⟩ := zi_bind h
  refine l0 _ _ _ _ _ _ _ _ _ _ _ _ _ _ _ _ _ _ _ _ q32 hq32 ?_
  show good 224 [.inr 1000, .inr 1000, .inr 1000, .inr 1000, .inr 1000, .inr 1000, .inr 1000, .inr 1000, .inr 1000, .inr 1000] [] [.inl q32.1, .inl f1, .inr 7, .inr 9, .inl q32.2.1, .inl q32.2.2.1, .inl q32.2.2.2.1, .inl q32.2.2.2.2.1, .inl f8, .inl f9, .inl f10, .inl f11, .inl f12, .inl q32.2.2.2.2.2.1, .inl q32.2.2.2.2.2.2.1, .inl f15, .inl q32.2.2.2.2.2.2.2.1, .inl f17] [q32.2.2.2.2.2.2.2.2.1, g1, q32.2.2.2.2.2.2.2.2.2.1, g3, q32.2.2.2.2.2.2.2.2.2.2.1, q32.2.2.2.2.2.2.2.2.2.2.2.1, q32.2.2.2.2.2.2.2.2.2.2.2.2.1, g7, g8, g9, g10, g11, q32.2.2.2.2.2.2.2.2.2.2.2.2.2.1, g13, g14, g15, g16, g17, q32.2.2.2.2.2.2.2.2.2.2.2.2.2.2]
  have hw := Option.some.inj h
  subst hw
  exact hvret _ _ _ _ zd174_224 trivial ⟨rfl, rfl, rfl⟩
end
section
/-! Methods as functions, and that they do what these do. -/
/-! Pilot_findByTwo (LStarTales$View;LStarTales$Sea;LStarTales$Sky;III)Z -/
-- names: 0 Pilot('arg', 0), 1 View('arg', 1), 2 Sea('arg', 2), 3 Sky('arg', 3), 4 (0, 24)(0, 9, 4), 5 Sky(1, 7, 0), 6 Law(1, 7, 1), 7 (0, 13)(6, 4, 12), 8 (0, 24)(5, 1, 1), 9 (0, 24)(5, 1, 2), 10 (0, 24)(5, 1, 3), 11 (0, 14)(6, 4, 3), 12 (0, 14)(6, 4, 5), 13 (0, 14)(6, 4, 6), 14 (0, 200)(6, 4, 0), 15 (0, 40)(6, 4, 13), 16 (0, 200)(6, 4, 1), 17 (0, 12)(2, 2, 0), 18 (0, 264)(0, 9, 5), 19 (0, 264)(0, 9, 6), 20 (0, 264)(0, 9, 7), 21 (0, 24)(5, 1, 4), 22 (0, 24)(5, 1, 5), 23 (0, 24)(1, 7, 8), 24 (0, 24)(3, 1, 1), 25 (0, 24)(3, 1, 2), 26 (0, 24)(3, 1, 3), 27 (0, 24)(3, 1, 4), 28 (0, 24)(3, 1, 5), 29 (0, 288)(0, 9, 11), 30 (0, 264)(0, 9, 8)
-- fields: f0 = 0.legs_, f1 = 1.sky_, f2 = 1.law_, f3 = 5.told_, f4 = 1.x_, f5 = 1.y_, f6 = 5.hour_, f7 = 5.night_, f8 = 5.sightColumns_, f9 = 5.sightRows_, f10 = 5.clouds_, f11 = 6.tellsSeen_, f12 = 1.starsAsked_, f13 = 1.starsHold_, f14 = 6.clauses_, f15 = 6.answer_, f16 = 6.seenByPlace_, f17 = 3.told_, f18 = 0.best_, f19 = 3.hour_, f20 = 3.night_, f21 = 3.clouds_, f22 = 3.sightColumns_, f23 = 3.sightRows_, f24 = 3.chance_, f25 = 5.chance_, f26 = 0.hoursTaken_, f27 = 0.firstStar_, f28 = 0.turn_, f29 = 0.secondStar_; arrays: g0 = 4, g1 = 7, g2 = 8, g3 = 9, g4 = 10, g5 = 11, g6 = 12, g7 = 13, g8 = 14, g9 = 15, g10 = 16, g11 = 17, g12 = 18, g13 = 19, g14 = 20, g15 = 21, g16 = 22, g17 = 23, g18 = 24, g19 = 25, g20 = 26, g21 = 27, g22 = 28, g23 = 29, g24 = 30; out: [('ret', None), ('f', 0), ('f', 3), ('f', 4), ('f', 5), ('f', 6), ('f', 7), ('f', 8), ('f', 9), ('f', 10), ('f', 12), ('f', 13), ('f', 15), ('f', 18), ('f', 25), ('f', 26), ('f', 27), ('f', 28), ('f', 29), ('g', 0), ('g', 1), ('g', 2), ('g', 3), ('g', 4), ('g', 9), ('g', 12), ('g', 13), ('g', 14), ('g', 15), ('g', 16), ('g', 17), ('g', 23), ('g', 24)]
abbrev zy_Pilot_findByTwo : zNL := (31, [(0, 9), (1, 7), (2, 2), (3, 1), (5, 1), (6, 4)], [(0, 9, 9, 0), (1, 7, 0, 1), (1, 7, 1, 2), (5, 1, 0, 3), (1, 7, 2, 4), (1, 7, 3, 5), (5, 1, 6, 6), (5, 1, 7, 7), (5, 1, 9, 8), (5, 1, 10, 9), (5, 1, 8, 10), (6, 4, 8, 11), (1, 7, 6, 12), (1, 7, 7, 13), (6, 4, 7, 14), (6, 4, 14, 15), (6, 4, 10, 16), (3, 1, 0, 17), (0, 9, 10, 18), (3, 1, 6, 19), (3, 1, 7, 20), (3, 1, 8, 21), (3, 1, 9, 22), (3, 1, 10, 23), (3, 1, 11, 24), (5, 1, 11, 25), (0, 9, 0, 26), (0, 9, 1, 27), (0, 9, 2, 28), (0, 9, 3, 29)], [(0, 9, 4, 4), (6, 4, 12, 7), (5, 1, 1, 8), (5, 1, 2, 9), (5, 1, 3, 10), (6, 4, 3, 11), (6, 4, 5, 12), (6, 4, 6, 13), (6, 4, 0, 14), (6, 4, 13, 15), (6, 4, 1, 16), (2, 2, 0, 17), (0, 9, 5, 18), (0, 9, 6, 19), (0, 9, 7, 20), (5, 1, 4, 21), (5, 1, 5, 22), (1, 7, 8, 23), (3, 1, 1, 24), (3, 1, 2, 25), (3, 1, 3, 26), (3, 1, 4, 27), (3, 1, 5, 28), (0, 9, 11, 29), (0, 9, 8, 30)], [(4, 0, 24, 0), (7, 0, 13, 1), (8, 0, 24, 2), (9, 0, 24, 3), (10, 0, 24, 4), (11, 0, 14, 5), (12, 0, 14, 6), (13, 0, 14, 7), (14, 0, 200, 8), (15, 0, 40, 9), (16, 0, 200, 10), (17, 0, 12, 11), (18, 0, 264, 12), (19, 0, 264, 13), (20, 0, 264, 14), (21, 0, 24, 15), (22, 0, 24, 16), (23, 0, 24, 17), (24, 0, 24, 18), (25, 0, 24, 19), (26, 0, 24, 20), (27, 0, 24, 21), (28, 0, 24, 22), (29, 0, 288, 23), (30, 0, 264, 24)])
theorem zyw_Pilot_findByTwo : zv_wf zy_Pilot_findByTwo = true := by decide +kernel
theorem zye_Pilot_findByTwo : zv_ek2 zy_Pilot_findByTwo = true := by decide +kernel
def zf_Pilot_findByTwo_l0_b (x6 : Int) (f3 : Int) (f8 : Int) (f9 : Int) (f10 : Int) (f11 : Int) (f14 : Int) (f16 : Int) (f17 : Int) (g4 : (Int → Int)) (g5 : (Int → Int)) (g6 : (Int → Int)) (g7 : (Int → Int)) (g8 : (Int → Int)) (g10 : (Int → Int)) (g11 : (Int → Int)) (g15 : (Int → Int)) (g16 : (Int → Int)) (rec : Int → Int → Int → Int → Int → Int → Int → Int → Int → (Int → Int) → (Int → Int) → (Int → Int) → (Int → Int) → (Int → Int) → (Int → Int) → (Int → Int) → (Int → Int) → (Int → Int) → Option (Int × Int × Int × Int × Int × Int × Int × Int × (Int → Int) × (Int → Int) × (Int → Int) × (Int → Int) × (Int → Int) × (Int → Int) × (Int → Int) × (Int → Int) × (Int → Int))) (x7 : Int) (f0 : Int) (f4 : Int) (f5 : Int) (f6 : Int) (f7 : Int) (f12 : Int) (f13 : Int) (f15 : Int) (g0 : (Int → Int)) (g1 : (Int → Int)) (g2 : (Int → Int)) (g3 : (Int → Int)) (g9 : (Int → Int)) (g12 : (Int → Int)) (g13 : (Int → Int)) (g14 : (Int → Int)) (g17 : (Int → Int)) : Option (Int × Int × Int × Int × Int × Int × Int × Int × (Int → Int) × (Int → Int) × (Int → Int) × (Int → Int) × (Int → Int) × (Int → Int) × (Int → Int) × (Int → Int) × (Int → Int)) := if x7 < x6 then ((zf_Pilot_stepFirstLegs f3 f4 f5 f6 f7 f8 f9 f10 f11 f12 f13 f14 f15 f16 g0 g1 g2 g3 g4 g5 g6 g7 g8 g9 g10 g11).bind fun r3 => ((zf_Pilot_endFirstLegs x7 f17 f0 r3.2.2.2.2.2.1 g12 g13 g14).bind fun r4 => ((zf_Pilot_turnOnward f6 f7 r3.2.2.1 g2 g15 g3 g16 g17).bind fun r5 => (rec (zi_w (x7 + 1)) r4.1 r3.1 r3.2.1 r5.1 r5.2.1 r5.2.2.1 r3.2.2.2.1 r3.2.2.2.2.1 r3.2.2.2.2.2.1 r3.2.2.2.2.2.2.1 r5.2.2.2.1 r5.2.2.2.2.1 r3.2.2.2.2.2.2.2 r4.2.1 r4.2.2.1 r4.2.2.2 r5.2.2.2.2.2)))) else (some (f0, f4, f5, f6, f7, f12, f13, f15, g0, g1, g2, g3, g9, g12, g13, g14, g17))
def zf_Pilot_findByTwo_l0 (x6 : Int) (f3 : Int) (f8 : Int) (f9 : Int) (f10 : Int) (f11 : Int) (f14 : Int) (f16 : Int) (f17 : Int) (g4 : (Int → Int)) (g5 : (Int → Int)) (g6 : (Int → Int)) (g7 : (Int → Int)) (g8 : (Int → Int)) (g10 : (Int → Int)) (g11 : (Int → Int)) (g15 : (Int → Int)) (g16 : (Int → Int)) : Nat → Int → Int → Int → Int → Int → Int → Int → Int → Int → (Int → Int) → (Int → Int) → (Int → Int) → (Int → Int) → (Int → Int) → (Int → Int) → (Int → Int) → (Int → Int) → (Int → Int) → Option (Int × Int × Int × Int × Int × Int × Int × Int × (Int → Int) × (Int → Int) × (Int → Int) × (Int → Int) × (Int → Int) × (Int → Int) × (Int → Int) × (Int → Int) × (Int → Int))
  | 0, _, _, _, _, _, _, _, _, _, _, _, _, _, _, _, _, _, _ => none
  | n + 1, x7, f0, f4, f5, f6, f7, f12, f13, f15, g0, g1, g2, g3, g9, g12, g13, g14, g17 => zf_Pilot_findByTwo_l0_b x6 f3 f8 f9 f10 f11 f14 f16 f17 g4 g5 g6 g7 g8 g10 g11 g15 g16 (zf_Pilot_findByTwo_l0 x6 f3 f8 f9 f10 f11 f14 f16 f17 g4 g5 g6 g7 g8 g10 g11 g15 g16 n) x7 f0 f4 f5 f6 f7 f12 f13 f15 g0 g1 g2 g3 g9 g12 g13 g14 g17
def zf_Pilot_findByTwo_l1_b (x5 : Int) (x6 : Int) (f0 : Int) (f11 : Int) (f14 : Int) (f16 : Int) (f17 : Int) (f19 : Int) (f20 : Int) (f21 : Int) (f22 : Int) (f23 : Int) (f24 : Int) (g5 : (Int → Int)) (g6 : (Int → Int)) (g7 : (Int → Int)) (g8 : (Int → Int)) (g10 : (Int → Int)) (g11 : (Int → Int)) (g12 : (Int → Int)) (g13 : (Int → Int)) (g14 : (Int → Int)) (g18 : (Int → Int)) (g19 : (Int → Int)) (g20 : (Int → Int)) (g21 : (Int → Int)) (g22 : (Int → Int)) (rec : Int → Int → Int → Int → Int → Int → Int → Int → Int → Int → Int → Int → Int → Int → (Int → Int) → (Int → Int) → (Int → Int) → (Int → Int) → (Int → Int) → (Int → Int) → (Int → Int) → (Int → Int) → (Int → Int) → (Int → Int) → Option (Int × Int × Int × Int × Int × Int × Int × Int × Int × Int × Int × Int × Int × (Int → Int) × (Int → Int) × (Int → Int) × (Int → Int) × (Int → Int) × (Int → Int) × (Int → Int) × (Int → Int) × (Int → Int) × (Int → Int))) (x7 : Int) (f3 : Int) (f4 : Int) (f5 : Int) (f6 : Int) (f7 : Int) (f8 : Int) (f9 : Int) (f10 : Int) (f12 : Int) (f13 : Int) (f15 : Int) (f18 : Int) (f25 : Int) (g1 : (Int → Int)) (g2 : (Int → Int)) (g3 : (Int → Int)) (g4 : (Int → Int)) (g9 : (Int → Int)) (g15 : (Int → Int)) (g16 : (Int → Int)) (g17 : (Int → Int)) (g23 : (Int → Int)) (g24 : (Int → Int)) : Option (Int × Int × Int × Int × Int × Int × Int × Int × Int × Int × Int × Int × Int × (Int → Int) × (Int → Int) × (Int → Int) × (Int → Int) × (Int → Int) × (Int → Int) × (Int → Int) × (Int → Int) × (Int → Int) × (Int → Int)) := if x7 < 24 then ((zf_Sky_hasStar x7 f17).bind fun r8 => (if r8 = 0 then (rec (zi_w (x7 + 1)) f3 f4 f5 f6 f7 f8 f9 f10 f12 f13 f15 f18 f25 g1 g2 g3 g4 g9 g15 g16 g17 g23 g24) else ((zf_Sky_copyFrom f17 f3 f19 f6 f20 f7 f21 f10 f22 f8 f23 f9 f24 f25 g18 g2 g19 g3 g20 g4 g21 g15 g22 g16).bind fun r10 => ((zf_View_open f12 g17).bind fun r11 => ((zf_Pilot_followSecond x7 x5 x6 f18 f0 f4 f5 r10.2.1 r10.2.2.1 r10.1 r10.2.2.2.2.1 r10.2.2.2.2.2.1 r10.2.2.2.1 f11 r11.1 f13 f14 f15 f16 g23 g13 g24 g12 g1 r10.2.2.2.2.2.2.2.1 r10.2.2.2.2.2.2.2.2.1 r10.2.2.2.2.2.2.2.2.2.1 g5 g6 g7 g8 g9 g10 g11 g14 r10.2.2.2.2.2.2.2.2.2.2.1 r10.2.2.2.2.2.2.2.2.2.2.2 r11.2).bind fun r12 => (rec (zi_w (x7 + 1)) r10.1 r12.2.1 r12.2.2.1 r12.2.2.2.1 r12.2.2.2.2.1 r10.2.2.2.2.1 r10.2.2.2.2.2.1 r10.2.2.2.1 r12.2.2.2.2.2.1 r12.2.2.2.2.2.2.1 r12.2.2.2.2.2.2.2.1 r12.1 r10.2.2.2.2.2.2.1 r12.2.2.2.2.2.2.2.2.2.2.1 r12.2.2.2.2.2.2.2.2.2.2.2.1 r12.2.2.2.2.2.2.2.2.2.2.2.2.1 r10.2.2.2.2.2.2.2.2.2.1 r12.2.2.2.2.2.2.2.2.2.2.2.2.2.1 r10.2.2.2.2.2.2.2.2.2.2.1 r10.2.2.2.2.2.2.2.2.2.2.2 r12.2.2.2.2.2.2.2.2.2.2.2.2.2.2 r12.2.2.2.2.2.2.2.2.1 r12.2.2.2.2.2.2.2.2.2.1)))))) else (some (f3, f4, f5, f6, f7, f8, f9, f10, f12, f13, f15, f18, f25, g1, g2, g3, g4, g9, g15, g16, g17, g23, g24))
def zf_Pilot_findByTwo_l1 (x5 : Int) (x6 : Int) (f0 : Int) (f11 : Int) (f14 : Int) (f16 : Int) (f17 : Int) (f19 : Int) (f20 : Int) (f21 : Int) (f22 : Int) (f23 : Int) (f24 : Int) (g5 : (Int → Int)) (g6 : (Int → Int)) (g7 : (Int → Int)) (g8 : (Int → Int)) (g10 : (Int → Int)) (g11 : (Int → Int)) (g12 : (Int → Int)) (g13 : (Int → Int)) (g14 : (Int → Int)) (g18 : (Int → Int)) (g19 : (Int → Int)) (g20 : (Int → Int)) (g21 : (Int → Int)) (g22 : (Int → Int)) : Nat → Int → Int → Int → Int → Int → Int → Int → Int → Int → Int → Int → Int → Int → Int → (Int → Int) → (Int → Int) → (Int → Int) → (Int → Int) → (Int → Int) → (Int → Int) → (Int → Int) → (Int → Int) → (Int → Int) → (Int → Int) → Option (Int × Int × Int × Int × Int × Int × Int × Int × Int × Int × Int × Int × Int × (Int → Int) × (Int → Int) × (Int → Int) × (Int → Int) × (Int → Int) × (Int → Int) × (Int → Int) × (Int → Int) × (Int → Int) × (Int → Int))
  | 0, _, _, _, _, _, _, _, _, _, _, _, _, _, _, _, _, _, _, _, _, _, _, _, _ => none
  | n + 1, x7, f3, f4, f5, f6, f7, f8, f9, f10, f12, f13, f15, f18, f25, g1, g2, g3, g4, g9, g15, g16, g17, g23, g24 => zf_Pilot_findByTwo_l1_b x5 x6 f0 f11 f14 f16 f17 f19 f20 f21 f22 f23 f24 g5 g6 g7 g8 g10 g11 g12 g13 g14 g18 g19 g20 g21 g22 (zf_Pilot_findByTwo_l1 x5 x6 f0 f11 f14 f16 f17 f19 f20 f21 f22 f23 f24 g5 g6 g7 g8 g10 g11 g12 g13 g14 g18 g19 g20 g21 g22 n) x7 f3 f4 f5 f6 f7 f8 f9 f10 f12 f13 f15 f18 f25 g1 g2 g3 g4 g9 g15 g16 g17 g23 g24
def zf_Pilot_findByTwo (x4 : Int) (x5 : Int) (x6 : Int) (f0 : Int) (f3 : Int) (f4 : Int) (f5 : Int) (f6 : Int) (f7 : Int) (f8 : Int) (f9 : Int) (f10 : Int) (f11 : Int) (f12 : Int) (f13 : Int) (f14 : Int) (f15 : Int) (f16 : Int) (f17 : Int) (f18 : Int) (f19 : Int) (f20 : Int) (f21 : Int) (f22 : Int) (f23 : Int) (f24 : Int) (f25 : Int) (f26 : Int) (f27 : Int) (f28 : Int) (f29 : Int) (g0 : (Int → Int)) (g1 : (Int → Int)) (g2 : (Int → Int)) (g3 : (Int → Int)) (g4 : (Int → Int)) (g5 : (Int → Int)) (g6 : (Int → Int)) (g7 : (Int → Int)) (g8 : (Int → Int)) (g9 : (Int → Int)) (g10 : (Int → Int)) (g11 : (Int → Int)) (g12 : (Int → Int)) (g13 : (Int → Int)) (g14 : (Int → Int)) (g15 : (Int → Int)) (g16 : (Int → Int)) (g17 : (Int → Int)) (g18 : (Int → Int)) (g19 : (Int → Int)) (g20 : (Int → Int)) (g21 : (Int → Int)) (g22 : (Int → Int)) (g23 : (Int → Int)) (g24 : (Int → Int)) : Option (Int × Int × Int × Int × Int × Int × Int × Int × Int × Int × Int × Int × Int × Int × Int × Int × Int × Int × Int × (Int → Int) × (Int → Int) × (Int → Int) × (Int → Int) × (Int → Int) × (Int → Int) × (Int → Int) × (Int → Int) × (Int → Int) × (Int → Int) × (Int → Int) × (Int → Int) × (Int → Int) × (Int → Int)) := (zf_Arrays_fill_24 x4 g0).bind fun r1 => ((zf_Pilot_findByTwo_l0 x6 f3 f8 f9 f10 f11 f14 f16 f17 g4 g5 g6 g7 g8 g10 g11 g15 g16 zi_fu 1 0 f4 f5 f6 f7 f12 f13 f15 r1 g1 g2 g3 g9 g12 g13 g14 g17).bind fun q6 => ((zf_Pilot_findByTwo_l1 x5 x6 q6.1 f11 f14 f16 f17 f19 f20 f21 f22 f23 f24 g5 g6 g7 g8 g10 g11 q6.2.2.2.2.2.2.2.2.2.2.2.2.2.1 q6.2.2.2.2.2.2.2.2.2.2.2.2.2.2.1 q6.2.2.2.2.2.2.2.2.2.2.2.2.2.2.2.1 g18 g19 g20 g21 g22 zi_fu 0 f3 q6.2.1 q6.2.2.1 q6.2.2.2.1 q6.2.2.2.2.1 f8 f9 f10 q6.2.2.2.2.2.1 q6.2.2.2.2.2.2.1 q6.2.2.2.2.2.2.2.1 (-1) f25 q6.2.2.2.2.2.2.2.2.2.1 q6.2.2.2.2.2.2.2.2.2.2.1 q6.2.2.2.2.2.2.2.2.2.2.2.1 g4 q6.2.2.2.2.2.2.2.2.2.2.2.2.1 g15 g16 q6.2.2.2.2.2.2.2.2.2.2.2.2.2.2.2.2 g23 g24).bind fun q13 => (if q13.2.2.2.2.2.2.2.2.2.2.2.1 = (-1) then (some (0, q6.1, q13.1, q13.2.1, q13.2.2.1, q13.2.2.2.1, q13.2.2.2.2.1, q13.2.2.2.2.2.1, q13.2.2.2.2.2.2.1, q13.2.2.2.2.2.2.2.1, q13.2.2.2.2.2.2.2.2.1, q13.2.2.2.2.2.2.2.2.2.1, q13.2.2.2.2.2.2.2.2.2.2.1, q13.2.2.2.2.2.2.2.2.2.2.2.1, q13.2.2.2.2.2.2.2.2.2.2.2.2.1, f26, f27, f28, f29, q6.2.2.2.2.2.2.2.2.1, q13.2.2.2.2.2.2.2.2.2.2.2.2.2.1, q13.2.2.2.2.2.2.2.2.2.2.2.2.2.2.1, q13.2.2.2.2.2.2.2.2.2.2.2.2.2.2.2.1, q13.2.2.2.2.2.2.2.2.2.2.2.2.2.2.2.2.1, q13.2.2.2.2.2.2.2.2.2.2.2.2.2.2.2.2.2.1, q6.2.2.2.2.2.2.2.2.2.2.2.2.2.1, q6.2.2.2.2.2.2.2.2.2.2.2.2.2.2.1, q6.2.2.2.2.2.2.2.2.2.2.2.2.2.2.2.1, q13.2.2.2.2.2.2.2.2.2.2.2.2.2.2.2.2.2.2.1, q13.2.2.2.2.2.2.2.2.2.2.2.2.2.2.2.2.2.2.2.1, q13.2.2.2.2.2.2.2.2.2.2.2.2.2.2.2.2.2.2.2.2.1, q13.2.2.2.2.2.2.2.2.2.2.2.2.2.2.2.2.2.2.2.2.2.1, q13.2.2.2.2.2.2.2.2.2.2.2.2.2.2.2.2.2.2.2.2.2.2)) else (some (1, q6.1, q13.1, q13.2.1, q13.2.2.1, q13.2.2.2.1, q13.2.2.2.2.1, q13.2.2.2.2.2.1, q13.2.2.2.2.2.2.1, q13.2.2.2.2.2.2.2.1, q13.2.2.2.2.2.2.2.2.1, q13.2.2.2.2.2.2.2.2.2.1, q13.2.2.2.2.2.2.2.2.2.2.1, q13.2.2.2.2.2.2.2.2.2.2.2.1, q13.2.2.2.2.2.2.2.2.2.2.2.2.1, (zi_div q13.2.2.2.2.2.2.2.2.2.2.2.1 6912), (zi_rem (zi_div q13.2.2.2.2.2.2.2.2.2.2.2.1 288) 24), (zi_rem (zi_div q13.2.2.2.2.2.2.2.2.2.2.2.1 24) 12), (zi_rem q13.2.2.2.2.2.2.2.2.2.2.2.1 24), q6.2.2.2.2.2.2.2.2.1, q13.2.2.2.2.2.2.2.2.2.2.2.2.2.1, q13.2.2.2.2.2.2.2.2.2.2.2.2.2.2.1, q13.2.2.2.2.2.2.2.2.2.2.2.2.2.2.2.1, q13.2.2.2.2.2.2.2.2.2.2.2.2.2.2.2.2.1, q13.2.2.2.2.2.2.2.2.2.2.2.2.2.2.2.2.2.1, q6.2.2.2.2.2.2.2.2.2.2.2.2.2.1, q6.2.2.2.2.2.2.2.2.2.2.2.2.2.2.1, q6.2.2.2.2.2.2.2.2.2.2.2.2.2.2.2.1, q13.2.2.2.2.2.2.2.2.2.2.2.2.2.2.2.2.2.2.1, q13.2.2.2.2.2.2.2.2.2.2.2.2.2.2.2.2.2.2.2.1, q13.2.2.2.2.2.2.2.2.2.2.2.2.2.2.2.2.2.2.2.2.1, q13.2.2.2.2.2.2.2.2.2.2.2.2.2.2.2.2.2.2.2.2.2.1, q13.2.2.2.2.2.2.2.2.2.2.2.2.2.2.2.2.2.2.2.2.2.2)))))
theorem zd171_0 : decode zxm171.2.1 0 = .ok (.aload_n 0, 1) := by decide +kernel
theorem zd171_1 : decode zxm171.2.1 1 = .ok (.iconst 0, 1) := by decide +kernel
theorem zd171_2 : decode zxm171.2.1 2 = .ok (.putfield 40, 3) := by decide +kernel
theorem zd171_5 : decode zxm171.2.1 5 = .ok (.aload_n 0, 1) := by decide +kernel
theorem zd171_6 : decode zxm171.2.1 6 = .ok (.getfield 24, 3) := by decide +kernel
theorem zd171_9 : decode zxm171.2.1 9 = .ok (.iload 4, 2) := by decide +kernel
theorem zd171_11 : decode zxm171.2.1 11 = .ok (.invokestatic 110, 3) := by decide +kernel
theorem zd171_14 : decode zxm171.2.1 14 = .ok (.iconst 1, 1) := by decide +kernel
theorem zd171_15 : decode zxm171.2.1 15 = .ok (.istore 7, 2) := by decide +kernel
theorem zd171_17 : decode zxm171.2.1 17 = .ok (.iload 7, 2) := by decide +kernel
theorem zd171_19 : decode zxm171.2.1 19 = .ok (.iload 6, 2) := by decide +kernel
theorem zd171_21 : decode zxm171.2.1 21 = .ok (.if_icmp .ge 27, 3) := by decide +kernel
theorem zd171_24 : decode zxm171.2.1 24 = .ok (.aload_n 0, 1) := by decide +kernel
theorem zd171_25 : decode zxm171.2.1 25 = .ok (.aload_n 1, 1) := by decide +kernel
theorem zd171_26 : decode zxm171.2.1 26 = .ok (.aload_n 2, 1) := by decide +kernel
theorem zd171_27 : decode zxm171.2.1 27 = .ok (.invokevirtual 116, 3) := by decide +kernel
theorem zd171_30 : decode zxm171.2.1 30 = .ok (.aload_n 0, 1) := by decide +kernel
theorem zd171_31 : decode zxm171.2.1 31 = .ok (.aload_n 3, 1) := by decide +kernel
theorem zd171_32 : decode zxm171.2.1 32 = .ok (.iload 7, 2) := by decide +kernel
theorem zd171_34 : decode zxm171.2.1 34 = .ok (.invokevirtual 127, 3) := by decide +kernel
theorem zd171_37 : decode zxm171.2.1 37 = .ok (.aload_n 0, 1) := by decide +kernel
theorem zd171_38 : decode zxm171.2.1 38 = .ok (.aload_n 1, 1) := by decide +kernel
theorem zd171_39 : decode zxm171.2.1 39 = .ok (.invokevirtual 123, 3) := by decide +kernel
theorem zd171_42 : decode zxm171.2.1 42 = .ok (.iinc 7 1, 3) := by decide +kernel
theorem zd171_45 : decode zxm171.2.1 45 = .ok (.goto (-28), 3) := by decide +kernel
theorem zd171_48 : decode zxm171.2.1 48 = .ok (.aload_n 0, 1) := by decide +kernel
theorem zd171_49 : decode zxm171.2.1 49 = .ok (.iconst (-1), 1) := by decide +kernel
theorem zd171_50 : decode zxm171.2.1 50 = .ok (.putfield 43, 3) := by decide +kernel
theorem zd171_53 : decode zxm171.2.1 53 = .ok (.iconst 0, 1) := by decide +kernel
theorem zd171_54 : decode zxm171.2.1 54 = .ok (.istore 7, 2) := by decide +kernel
theorem zd171_56 : decode zxm171.2.1 56 = .ok (.iload 7, 2) := by decide +kernel
theorem zd171_58 : decode zxm171.2.1 58 = .ok (.bipush 24, 2) := by decide +kernel
theorem zd171_60 : decode zxm171.2.1 60 = .ok (.if_icmp .ge 50, 3) := by decide +kernel
theorem zd171_63 : decode zxm171.2.1 63 = .ok (.aload_n 3, 1) := by decide +kernel
theorem zd171_64 : decode zxm171.2.1 64 = .ok (.iload 7, 2) := by decide +kernel
theorem zd171_66 : decode zxm171.2.1 66 = .ok (.invokevirtual 120, 3) := by decide +kernel
theorem zd171_69 : decode zxm171.2.1 69 = .ok (.ifCond .eq 35, 3) := by decide +kernel
theorem zd171_72 : decode zxm171.2.1 72 = .ok (.aload_n 1, 1) := by decide +kernel
theorem zd171_73 : decode zxm171.2.1 73 = .ok (.getfield 75, 3) := by decide +kernel
theorem zd171_76 : decode zxm171.2.1 76 = .ok (.aload_n 3, 1) := by decide +kernel
theorem zd171_77 : decode zxm171.2.1 77 = .ok (.invokevirtual 131, 3) := by decide +kernel
theorem zd171_80 : decode zxm171.2.1 80 = .ok (.aload_n 1, 1) := by decide +kernel
theorem zd171_81 : decode zxm171.2.1 81 = .ok (.aload_n 1, 1) := by decide +kernel
theorem zd171_82 : decode zxm171.2.1 82 = .ok (.getfield 75, 3) := by decide +kernel
theorem zd171_85 : decode zxm171.2.1 85 = .ok (.aload_n 1, 1) := by decide +kernel
theorem zd171_86 : decode zxm171.2.1 86 = .ok (.getfield 135, 3) := by decide +kernel
theorem zd171_89 : decode zxm171.2.1 89 = .ok (.invokevirtual 139, 3) := by decide +kernel
theorem zd171_92 : decode zxm171.2.1 92 = .ok (.aload_n 0, 1) := by decide +kernel
theorem zd171_93 : decode zxm171.2.1 93 = .ok (.aload_n 1, 1) := by decide +kernel
theorem zd171_94 : decode zxm171.2.1 94 = .ok (.aload_n 2, 1) := by decide +kernel
theorem zd171_95 : decode zxm171.2.1 95 = .ok (.iload 7, 2) := by decide +kernel
theorem zd171_97 : decode zxm171.2.1 97 = .ok (.iload 5, 2) := by decide +kernel
theorem zd171_99 : decode zxm171.2.1 99 = .ok (.iload 6, 2) := by decide +kernel
theorem zd171_101 : decode zxm171.2.1 101 = .ok (.invokevirtual 143, 3) := by decide +kernel
theorem zd171_104 : decode zxm171.2.1 104 = .ok (.iinc 7 1, 3) := by decide +kernel
theorem zd171_107 : decode zxm171.2.1 107 = .ok (.goto (-51), 3) := by decide +kernel
theorem zd171_110 : decode zxm171.2.1 110 = .ok (.aload_n 0, 1) := by decide +kernel
theorem zd171_111 : decode zxm171.2.1 111 = .ok (.getfield 43, 3) := by decide +kernel
theorem zd171_114 : decode zxm171.2.1 114 = .ok (.iconst (-1), 1) := by decide +kernel
theorem zd171_115 : decode zxm171.2.1 115 = .ok (.if_icmp .ne 5, 3) := by decide +kernel
theorem zd171_118 : decode zxm171.2.1 118 = .ok (.iconst 0, 1) := by decide +kernel
theorem zd171_119 : decode zxm171.2.1 119 = .ok (.ireturn, 1) := by decide +kernel
theorem zd171_120 : decode zxm171.2.1 120 = .ok (.aload_n 0, 1) := by decide +kernel
theorem zd171_121 : decode zxm171.2.1 121 = .ok (.aload_n 0, 1) := by decide +kernel
theorem zd171_122 : decode zxm171.2.1 122 = .ok (.getfield 43, 3) := by decide +kernel
theorem zd171_125 : decode zxm171.2.1 125 = .ok (.sipush 6912, 3) := by decide +kernel
theorem zd171_128 : decode zxm171.2.1 128 = .ok (.idiv, 1) := by decide +kernel
theorem zd171_129 : decode zxm171.2.1 129 = .ok (.putfield 11, 3) := by decide +kernel
theorem zd171_132 : decode zxm171.2.1 132 = .ok (.aload_n 0, 1) := by decide +kernel
theorem zd171_133 : decode zxm171.2.1 133 = .ok (.aload_n 0, 1) := by decide +kernel
theorem zd171_134 : decode zxm171.2.1 134 = .ok (.getfield 43, 3) := by decide +kernel
theorem zd171_137 : decode zxm171.2.1 137 = .ok (.sipush 288, 3) := by decide +kernel
theorem zd171_140 : decode zxm171.2.1 140 = .ok (.idiv, 1) := by decide +kernel
theorem zd171_141 : decode zxm171.2.1 141 = .ok (.bipush 24, 2) := by decide +kernel
theorem zd171_143 : decode zxm171.2.1 143 = .ok (.irem, 1) := by decide +kernel
theorem zd171_144 : decode zxm171.2.1 144 = .ok (.putfield 15, 3) := by decide +kernel
theorem zd171_147 : decode zxm171.2.1 147 = .ok (.aload_n 0, 1) := by decide +kernel
theorem zd171_148 : decode zxm171.2.1 148 = .ok (.aload_n 0, 1) := by decide +kernel
theorem zd171_149 : decode zxm171.2.1 149 = .ok (.getfield 43, 3) := by decide +kernel
theorem zd171_152 : decode zxm171.2.1 152 = .ok (.bipush 24, 2) := by decide +kernel
theorem zd171_154 : decode zxm171.2.1 154 = .ok (.idiv, 1) := by decide +kernel
theorem zd171_155 : decode zxm171.2.1 155 = .ok (.bipush 12, 2) := by decide +kernel
theorem zd171_157 : decode zxm171.2.1 157 = .ok (.irem, 1) := by decide +kernel
theorem zd171_158 : decode zxm171.2.1 158 = .ok (.putfield 18, 3) := by decide +kernel
theorem zd171_161 : decode zxm171.2.1 161 = .ok (.aload_n 0, 1) := by decide +kernel
theorem zd171_162 : decode zxm171.2.1 162 = .ok (.aload_n 0, 1) := by decide +kernel
theorem zd171_163 : decode zxm171.2.1 163 = .ok (.getfield 43, 3) := by decide +kernel
theorem zd171_166 : decode zxm171.2.1 166 = .ok (.bipush 24, 2) := by decide +kernel
theorem zd171_168 : decode zxm171.2.1 168 = .ok (.irem, 1) := by decide +kernel
theorem zd171_169 : decode zxm171.2.1 169 = .ok (.putfield 21, 3) := by decide +kernel
theorem zd171_172 : decode zxm171.2.1 172 = .ok (.iconst 1, 1) := by decide +kernel
theorem zd171_173 : decode zxm171.2.1 173 = .ok (.ireturn, 1) := by decide +kernel
theorem zt_Pilot_findByTwo {x4 : Int} {x5 : Int} {x6 : Int} {f0 : Int} {f3 : Int} {f4 : Int} {f5 : Int} {f6 : Int} {f7 : Int} {f8 : Int} {f9 : Int} {f10 : Int} {f11 : Int} {f12 : Int} {f13 : Int} {f14 : Int} {f15 : Int} {f16 : Int} {f17 : Int} {f18 : Int} {f19 : Int} {f20 : Int} {f21 : Int} {f22 : Int} {f23 : Int} {f24 : Int} {f25 : Int} {f26 : Int} {f27 : Int} {f28 : Int} {f29 : Int} {g0 : (Int → Int)} {g1 : (Int → Int)} {g2 : (Int → Int)} {g3 : (Int → Int)} {g4 : (Int → Int)} {g5 : (Int → Int)} {g6 : (Int → Int)} {g7 : (Int → Int)} {g8 : (Int → Int)} {g9 : (Int → Int)} {g10 : (Int → Int)} {g11 : (Int → Int)} {g12 : (Int → Int)} {g13 : (Int → Int)} {g14 : (Int → Int)} {g15 : (Int → Int)} {g16 : (Int → Int)} {g17 : (Int → Int)} {g18 : (Int → Int)} {g19 : (Int → Int)} {g20 : (Int → Int)} {g21 : (Int → Int)} {g22 : (Int → Int)} {g23 : (Int → Int)} {g24 : (Int → Int)} {o : Int × Int × Int × Int × Int × Int × Int × Int × Int × Int × Int × Int × Int × Int × Int × Int × Int × Int × Int × (Int → Int) × (Int → Int) × (Int → Int) × (Int → Int) × (Int → Int) × (Int → Int) × (Int → Int) × (Int → Int) × (Int → Int) × (Int → Int) × (Int → Int) × (Int → Int) × (Int → Int) × (Int → Int)} (h : zf_Pilot_findByTwo x4 x5 x6 f0 f3 f4 f5 f6 f7 f8 f9 f10 f11 f12 f13 f14 f15 f16 f17 f18 f19 f20 f21 f22 f23 f24 f25 f26 f27 f28 f29 g0 g1 g2 g3 g4 g5 g6 g7 g8 g9 g10 g11 g12 g13 g14 g15 g16 g17 g18 g19 g20 g21 g22 g23 g24 = some o) : zv_Fn z_TB z_cl z_KX zy_Pilot_findByTwo zxm171 (6, 360) [.inr 0, .inr 1, .inr 2, .inr 3, .inl x4, .inl x5, .inl x6] [.inl f0, .inr 5, .inr 6, .inl f3, .inl f4, .inl f5, .inl f6, .inl f7, .inl f8, .inl f9, .inl f10, .inl f11, .inl f12, .inl f13, .inl f14, .inl f15, .inl f16, .inl f17, .inl f18, .inl f19, .inl f20, .inl f21, .inl f22, .inl f23, .inl f24, .inl f25, .inl f26, .inl f27, .inl f28, .inl f29] [g0, g1, g2, g3, g4, g5, g6, g7, g8, g9, g10, g11, g12, g13, g14, g15, g16, g17, g18, g19, g20, g21, g22, g23, g24] (some o.1) [.inl o.2.1, .inr 5, .inr 6, .inl o.2.2.1, .inl o.2.2.2.1, .inl o.2.2.2.2.1, .inl o.2.2.2.2.2.1, .inl o.2.2.2.2.2.2.1, .inl o.2.2.2.2.2.2.2.1, .inl o.2.2.2.2.2.2.2.2.1, .inl o.2.2.2.2.2.2.2.2.2.1, .inl f11, .inl o.2.2.2.2.2.2.2.2.2.2.1, .inl o.2.2.2.2.2.2.2.2.2.2.2.1, .inl f14, .inl o.2.2.2.2.2.2.2.2.2.2.2.2.1, .inl f16, .inl f17, .inl o.2.2.2.2.2.2.2.2.2.2.2.2.2.1, .inl f19, .inl f20, .inl f21, .inl f22, .inl f23, .inl f24, .inl o.2.2.2.2.2.2.2.2.2.2.2.2.2.2.1, .inl o.2.2.2.2.2.2.2.2.2.2.2.2.2.2.2.1, .inl o.2.2.2.2.2.2.2.2.2.2.2.2.2.2.2.2.1, .inl o.2.2.2.2.2.2.2.2.2.2.2.2.2.2.2.2.2.1, .inl o.2.2.2.2.2.2.2.2.2.2.2.2.2.2.2.2.2.2.1] [o.2.2.2.2.2.2.2.2.2.2.2.2.2.2.2.2.2.2.2.1, o.2.2.2.2.2.2.2.2.2.2.2.2.2.2.2.2.2.2.2.2.1, o.2.2.2.2.2.2.2.2.2.2.2.2.2.2.2.2.2.2.2.2.2.1, o.2.2.2.2.2.2.2.2.2.2.2.2.2.2.2.2.2.2.2.2.2.2.1, o.2.2.2.2.2.2.2.2.2.2.2.2.2.2.2.2.2.2.2.2.2.2.2.1, g5, g6, g7, g8, o.2.2.2.2.2.2.2.2.2.2.2.2.2.2.2.2.2.2.2.2.2.2.2.2.1, g10, g11, o.2.2.2.2.2.2.2.2.2.2.2.2.2.2.2.2.2.2.2.2.2.2.2.2.2.1, o.2.2.2.2.2.2.2.2.2.2.2.2.2.2.2.2.2.2.2.2.2.2.2.2.2.2.1, o.2.2.2.2.2.2.2.2.2.2.2.2.2.2.2.2.2.2.2.2.2.2.2.2.2.2.2.1, o.2.2.2.2.2.2.2.2.2.2.2.2.2.2.2.2.2.2.2.2.2.2.2.2.2.2.2.2.1, o.2.2.2.2.2.2.2.2.2.2.2.2.2.2.2.2.2.2.2.2.2.2.2.2.2.2.2.2.2.1, o.2.2.2.2.2.2.2.2.2.2.2.2.2.2.2.2.2.2.2.2.2.2.2.2.2.2.2.2.2.2.1, g18, g19, g20, g21, g22, o.2.2.2.2.2.2.2.2.2.2.2.2.2.2.2.2.2.2.2.2.2.2.2.2.2.2.2.2.2.2.2.1, o.2.2.2.2.2.2.2.2.2.2.2.2.2.2.2.2.2.2.2.2.2.2.2.2.2.2.2.2.2.2.2.2] := zv_meth (K := (z_KF6, z_KC6, z_KL6, z_KT6, [], [], [], none)) (FT := z_FT) (MT := z_MT) (n := 7) zxp171 (z_ks6 _ (fun _ h => List.mem_cons_of_mem _ h) _ _ _ _ (fun j r h _ => by cases h)) (fun _ _ => zs_KX_p) zyw_Pilot_findByTwo (fun va F G h => by obtain ⟨rfl, _⟩ := h; rfl) (fun va F G h => by obtain ⟨rfl, _⟩ := h; rfl) rfl fun good va F G hB hret hvret hP => by
  obtain ⟨rfl, rfl, rfl⟩ := hP
  have l0 : ∀ (n : Nat) (x5 : Int) (x6 : Int) (x7 : Int) (f0 : Int) (f3 : Int) (f4 : Int) (f5 : Int) (f6 : Int) (f7 : Int) (f8 : Int) (f9 : Int) (f10 : Int) (f12 : Int) (f13 : Int) (f15 : Int) (f18 : Int) (f25 : Int) (f26 : Int) (f27 : Int) (f28 : Int) (f29 : Int) (g0 : (Int → Int)) (g1 : (Int → Int)) (g2 : (Int → Int)) (g3 : (Int → Int)) (g4 : (Int → Int)) (g9 : (Int → Int)) (g12 : (Int → Int)) (g13 : (Int → Int)) (g14 : (Int → Int)) (g15 : (Int → Int)) (g16 : (Int → Int)) (g17 : (Int → Int)) (g23 : (Int → Int)) (g24 : (Int → Int)) (q : Int × Int × Int × Int × Int × Int × Int × Int × (Int → Int) × (Int → Int) × (Int → Int) × (Int → Int) × (Int → Int) × (Int → Int) × (Int → Int) × (Int → Int) × (Int → Int)), zf_Pilot_findByTwo_l0 x6 f3 f8 f9 f10 f11 f14 f16 f17 g4 g5 g6 g7 g8 g10 g11 g15 g16 n x7 f0 f4 f5 f6 f7 f12 f13 f15 g0 g1 g2 g3 g9 g12 g13 g14 g17 = some q → (good 48 [.inr 0, .inr 1, .inr 2, .inr 3, .inr 1000, .inl x5, .inl x6, .inr 1000] [] [.inl q.1, .inr 5, .inr 6, .inl f3, .inl q.2.1, .inl q.2.2.1, .inl q.2.2.2.1, .inl q.2.2.2.2.1, .inl f8, .inl f9, .inl f10, .inl f11, .inl q.2.2.2.2.2.1, .inl q.2.2.2.2.2.2.1, .inl f14, .inl q.2.2.2.2.2.2.2.1, .inl f16, .inl f17, .inl f18, .inl f19, .inl f20, .inl f21, .inl f22, .inl f23, .inl f24, .inl f25, .inl f26, .inl f27, .inl f28, .inl f29] [q.2.2.2.2.2.2.2.2.1, q.2.2.2.2.2.2.2.2.2.1, q.2.2.2.2.2.2.2.2.2.2.1, q.2.2.2.2.2.2.2.2.2.2.2.1, g4, g5, g6, g7, g8, q.2.2.2.2.2.2.2.2.2.2.2.2.1, g10, g11, q.2.2.2.2.2.2.2.2.2.2.2.2.2.1, q.2.2.2.2.2.2.2.2.2.2.2.2.2.2.1, q.2.2.2.2.2.2.2.2.2.2.2.2.2.2.2.1, g15, g16, q.2.2.2.2.2.2.2.2.2.2.2.2.2.2.2.2, g18, g19, g20, g21, g22, g23, g24]) → good 17 [.inr 0, .inr 1, .inr 2, .inr 3, .inr 1000, .inl x5, .inl x6, .inl x7] [] [.inl f0, .inr 5, .inr 6, .inl f3, .inl f4, .inl f5, .inl f6, .inl f7, .inl f8, .inl f9, .inl f10, .inl f11, .inl f12, .inl f13, .inl f14, .inl f15, .inl f16, .inl f17, .inl f18, .inl f19, .inl f20, .inl f21, .inl f22, .inl f23, .inl f24, .inl f25, .inl f26, .inl f27, .inl f28, .inl f29] [g0, g1, g2, g3, g4, g5, g6, g7, g8, g9, g10, g11, g12, g13, g14, g15, g16, g17, g18, g19, g20, g21, g22, g23, g24] := by
    intro n
    induction n with
    | zero => intro x5 x6 x7 f0 f3 f4 f5 f6 f7 f8 f9 f10 f12 f13 f15 f18 f25 f26 f27 f28 f29 g0 g1 g2 g3 g4 g9 g12 g13 g14 g15 g16 g17 g23 g24 q h; exact absurd (show none = some q from h) (fun h => by cases h)
    | succ n ih =>
      intro x5 x6 x7 f0 f3 f4 f5 f6 f7 f8 f9 f10 f12 f13 f15 f18 f25 f26 f27 f28 f29 g0 g1 g2 g3 g4 g9 g12 g13 g14 g15 g16 g17 g23 g24 q h hK
      replace h : zf_Pilot_findByTwo_l0_b x6 f3 f8 f9 f10 f11 f14 f16 f17 g4 g5 g6 g7 g8 g10 g11 g15 g16 (zf_Pilot_findByTwo_l0 x6 f3 f8 f9 f10 f11 f14 f16 f17 g4 g5 g6 g7 g8 g10 g11 g15 g16 n) x7 f0 f4 f5 f6 f7 f12 f13 f15 g0 g1 g2 g3 g9 g12 g13 g14 g17 = some q := h
      unfold zf_Pilot_findByTwo_l0_b at h
      refine zv_ild hB zd171_17 rfl rfl ?_
      refine zv_ild hB zd171_19 rfl rfl ?_
      refine zv_cge hB zd171_21 rfl (fun hc2 => ?_) (fun hc2 => ?_)
      · rw [if_neg (Int.not_lt.mpr hc2)] at h
        have hq := Option.some.inj h
        subst hq
        refine zv_wk hB (L' := [.inr 0, .inr 1, .inr 2, .inr 3, .inr 1000, .inl x5, .inl x6, .inr 1000]) (F' := [.inl f0, .inr 5, .inr 6, .inl f3, .inl f4, .inl f5, .inl f6, .inl f7, .inl f8, .inl f9, .inl f10, .inl f11, .inl f12, .inl f13, .inl f14, .inl f15, .inl f16, .inl f17, .inl f18, .inl f19, .inl f20, .inl f21, .inl f22, .inl f23, .inl f24, .inl f25, .inl f26, .inl f27, .inl f28, .inl f29]) ⟨fun _ => rfl, fun _ => rfl, fun _ => rfl, fun _ => rfl, fun (h : zv_is (.inr 1000)) => (Nat.lt_irrefl 1000 h).elim, fun _ => rfl, fun _ => rfl, fun (h : zv_is (.inr 1000)) => (Nat.lt_irrefl 1000 h).elim, trivial⟩ ⟨fun _ => rfl, fun _ => rfl, fun _ => rfl, fun _ => rfl, fun _ => rfl, fun _ => rfl, fun _ => rfl, fun _ => rfl, fun _ => rfl, fun _ => rfl, fun _ => rfl, fun _ => rfl, fun _ => rfl, fun _ => rfl, fun _ => rfl, fun _ => rfl, fun _ => rfl, fun _ => rfl, fun _ => rfl, fun _ => rfl, fun _ => rfl, fun _ => rfl, fun _ => rfl, fun _ => rfl, fun _ => rfl, fun _ => rfl, fun _ => rfl, fun _ => rfl, fun _ => rfl, fun _ => rfl, trivial⟩ ?_
        exact hK
      · rw [if_pos hc2] at h
        refine zv_ald hB zd171_24 rfl rfl rfl ?_
        refine zv_ald hB zd171_25 rfl rfl rfl ?_
        refine zv_ald hB zd171_26 rfl rfl rfl ?_
        obtain ⟨r3, hr3, h⟩ := zi_bind h
        refine zv_cv hB (zv_emq (va2 := [.inr 0, .inr 1, .inr 2]) (F := [.inl f0, .inr 5, .inr 6, .inl f3, .inl f4, .inl f5, .inl f6, .inl f7, .inl f8, .inl f9, .inl f10, .inl f11, .inl f12, .inl f13, .inl f14, .inl f15, .inl f16, .inl f17, .inl f18, .inl f19, .inl f20, .inl f21, .inl f22, .inl f23, .inl f24, .inl f25, .inl f26, .inl f27, .inl f28, .inl f29]) (F' := [.inl f0, .inr 5, .inr 6, .inl f3, .inl r3.1, .inl r3.2.1, .inl f6, .inl f7, .inl f8, .inl f9, .inl f10, .inl f11, .inl r3.2.2.1, .inl r3.2.2.2.1, .inl f14, .inl r3.2.2.2.2.1, .inl f16, .inl f17, .inl f18, .inl f19, .inl f20, .inl f21, .inl f22, .inl f23, .inl f24, .inl f25, .inl f26, .inl f27, .inl f28, .inl f29]) (G := [g0, g1, g2, g3, g4, g5, g6, g7, g8, g9, g10, g11, g12, g13, g14, g15, g16, g17, g18, g19, g20, g21, g22, g23, g24]) (G' := [r3.2.2.2.2.2.1, r3.2.2.2.2.2.2.1, g2, g3, g4, g5, g6, g7, g8, r3.2.2.2.2.2.2.2, g10, g11, g12, g13, g14, g15, g16, g17, g18, g19, g20, g21, g22, g23, g24]) (ρ := [0, 1, 2, 5, 4, 6, 7, 8, 9, 10, 11, 12, 13, 14, 15, 16, 17]) (φ := [1, 3, 2, 4, 5, 6, 7, 8, 9, 10, 11, 12, 13, 14, 15, 16]) (ψ := [0, 1, 2, 3, 4, 5, 6, 7, 8, 9, 10, 11]) [none, some 0, some 2, some 1, some 3, some 4, some 5, some 6, some 7, some 8, some 9, some 10, some 11, some 12, some 13, some 14, some 15, none, none, none, none, none, none, none, none, none, none, none, none, none] [some 0, some 1, some 2, some 3, some 4, some 5, some 6, some 7, some 8, some 9, some 10, some 11, none, none, none, none, none, none, none, none, none, none, none, none, none] zyw_Pilot_stepFirstLegs zyw_Pilot_findByTwo zye_Pilot_findByTwo (by decide +kernel) (zt_Pilot_stepFirstLegs hr3) ⟨⟨_, rfl, fun _ => rfl⟩, ⟨_, rfl, fun _ => rfl⟩, ⟨_, rfl, fun _ => rfl⟩, ⟨_, rfl, fun _ => rfl⟩, ⟨_, rfl, fun _ => rfl⟩, ⟨_, rfl, fun _ => rfl⟩, ⟨_, rfl, fun _ => rfl⟩, ⟨_, rfl, fun _ => rfl⟩, ⟨_, rfl, fun _ => rfl⟩, ⟨_, rfl, fun _ => rfl⟩, ⟨_, rfl, fun _ => rfl⟩, ⟨_, rfl, fun _ => rfl⟩, ⟨_, rfl, fun _ => rfl⟩, ⟨_, rfl, fun _ => rfl⟩, ⟨_, rfl, fun _ => rfl⟩, ⟨_, rfl, fun _ => rfl⟩, trivial⟩ ⟨rfl, rfl, rfl, rfl, rfl, rfl, rfl, rfl, rfl, rfl, rfl, rfl, trivial⟩ rfl rfl rfl rfl rfl rfl rfl) zd171_27 zxt168 rfl (by decide) (by decide) rfl ?_
        refine zv_ald hB zd171_30 rfl rfl rfl ?_
        refine zv_ald hB zd171_31 rfl rfl rfl ?_
        refine zv_ild hB zd171_32 rfl rfl ?_
        obtain ⟨r4, hr4, h⟩ := zi_bind h
        refine zv_cv hB (zv_emq (va2 := [.inr 0, .inr 3, .inl x7]) (F := [.inl f0, .inr 5, .inr 6, .inl f3, .inl r3.1, .inl r3.2.1, .inl f6, .inl f7, .inl f8, .inl f9, .inl f10, .inl f11, .inl r3.2.2.1, .inl r3.2.2.2.1, .inl f14, .inl r3.2.2.2.2.1, .inl f16, .inl f17, .inl f18, .inl f19, .inl f20, .inl f21, .inl f22, .inl f23, .inl f24, .inl f25, .inl f26, .inl f27, .inl f28, .inl f29]) (F' := [.inl r4.1, .inr 5, .inr 6, .inl f3, .inl r3.1, .inl r3.2.1, .inl f6, .inl f7, .inl f8, .inl f9, .inl f10, .inl f11, .inl r3.2.2.1, .inl r3.2.2.2.1, .inl f14, .inl r3.2.2.2.2.1, .inl f16, .inl f17, .inl f18, .inl f19, .inl f20, .inl f21, .inl f22, .inl f23, .inl f24, .inl f25, .inl f26, .inl f27, .inl f28, .inl f29]) (G := [r3.2.2.2.2.2.1, r3.2.2.2.2.2.2.1, g2, g3, g4, g5, g6, g7, g8, r3.2.2.2.2.2.2.2, g10, g11, g12, g13, g14, g15, g16, g17, g18, g19, g20, g21, g22, g23, g24]) (G' := [r3.2.2.2.2.2.1, r3.2.2.2.2.2.2.1, g2, g3, g4, g5, g6, g7, g8, r3.2.2.2.2.2.2.2, g10, g11, r4.2.1, r4.2.2.1, r4.2.2.2, g15, g16, g17, g18, g19, g20, g21, g22, g23, g24]) (ρ := [0, 3, 4, 18, 19, 20]) (φ := [17, 0]) (ψ := [0, 12, 13, 14]) [some 1, none, none, none, none, none, none, none, none, none, none, none, none, none, none, none, none, some 0, none, none, none, none, none, none, none, none, none, none, none, none] [some 0, none, none, none, none, none, none, none, none, none, none, none, some 1, some 2, some 3, none, none, none, none, none, none, none, none, none, none] zyw_Pilot_endFirstLegs zyw_Pilot_findByTwo zye_Pilot_findByTwo (by decide +kernel) (zt_Pilot_endFirstLegs hr4) ⟨⟨_, rfl, fun _ => rfl⟩, ⟨_, rfl, fun _ => rfl⟩, trivial⟩ ⟨rfl, rfl, rfl, rfl, trivial⟩ rfl rfl rfl rfl rfl rfl rfl) zd171_34 zxt172 rfl (by decide) (by decide) rfl ?_
        refine zv_ald hB zd171_37 rfl rfl rfl ?_
        refine zv_ald hB zd171_38 rfl rfl rfl ?_
        obtain ⟨r5, hr5, h⟩ := zi_bind h
        refine zv_cv hB (zv_emq (va2 := [.inr 0, .inr 1]) (F := [.inl r4.1, .inr 5, .inr 6, .inl f3, .inl r3.1, .inl r3.2.1, .inl f6, .inl f7, .inl f8, .inl f9, .inl f10, .inl f11, .inl r3.2.2.1, .inl r3.2.2.2.1, .inl f14, .inl r3.2.2.2.2.1, .inl f16, .inl f17, .inl f18, .inl f19, .inl f20, .inl f21, .inl f22, .inl f23, .inl f24, .inl f25, .inl f26, .inl f27, .inl f28, .inl f29]) (F' := [.inl r4.1, .inr 5, .inr 6, .inl f3, .inl r3.1, .inl r3.2.1, .inl r5.1, .inl r5.2.1, .inl f8, .inl f9, .inl f10, .inl f11, .inl r5.2.2.1, .inl r3.2.2.2.1, .inl f14, .inl r3.2.2.2.2.1, .inl f16, .inl f17, .inl f18, .inl f19, .inl f20, .inl f21, .inl f22, .inl f23, .inl f24, .inl f25, .inl f26, .inl f27, .inl f28, .inl f29]) (G := [r3.2.2.2.2.2.1, r3.2.2.2.2.2.2.1, g2, g3, g4, g5, g6, g7, g8, r3.2.2.2.2.2.2.2, g10, g11, r4.2.1, r4.2.2.1, r4.2.2.2, g15, g16, g17, g18, g19, g20, g21, g22, g23, g24]) (G' := [r3.2.2.2.2.2.1, r3.2.2.2.2.2.2.1, r5.2.2.2.1, r5.2.2.2.2.1, g4, g5, g6, g7, g8, r3.2.2.2.2.2.2.2, g10, g11, r4.2.1, r4.2.2.1, r4.2.2.2, g15, g16, r5.2.2.2.2.2, g18, g19, g20, g21, g22, g23, g24]) (ρ := [0, 1, 5, 8, 21, 9, 22, 6, 23]) (φ := [1, 6, 7, 2, 12]) (ψ := [2, 15, 3, 16, 17]) [none, some 0, some 3, none, none, none, some 1, some 2, none, none, none, none, some 4, none, none, none, none, none, none, none, none, none, none, none, none, none, none, none, none, none] [none, none, some 0, some 2, none, none, none, none, none, none, none, none, none, none, none, some 1, some 3, some 4, none, none, none, none, none, none, none] zyw_Pilot_turnOnward zyw_Pilot_findByTwo zye_Pilot_findByTwo (by decide +kernel) (zt_Pilot_turnOnward hr5) ⟨⟨_, rfl, fun _ => rfl⟩, ⟨_, rfl, fun _ => rfl⟩, ⟨_, rfl, fun _ => rfl⟩, ⟨_, rfl, fun _ => rfl⟩, ⟨_, rfl, fun _ => rfl⟩, trivial⟩ ⟨rfl, rfl, rfl, rfl, rfl, trivial⟩ rfl rfl rfl rfl rfl rfl rfl) zd171_39 zxt169 rfl (by decide) (by decide) rfl ?_
        refine zv_iincw hB zd171_42 rfl rfl ?_
        refine zv_goto hB zd171_45 rfl ?_
        exact ih _ _ _ _ _ _ _ _ _ _ _ _ _ _ _ _ _ _ _ _ _ _ _ _ _ _ _ _ _ _ _ _ _ _ _ q h hK
  have l1 : ∀ (n : Nat) (x5 : Int) (x6 : Int) (x7 : Int) (f0 : Int) (f3 : Int) (f4 : Int) (f5 : Int) (f6 : Int) (f7 : Int) (f8 : Int) (f9 : Int) (f10 : Int) (f12 : Int) (f13 : Int) (f15 : Int) (f18 : Int) (f25 : Int) (f26 : Int) (f27 : Int) (f28 : Int) (f29 : Int) (g0 : (Int → Int)) (g1 : (Int → Int)) (g2 : (Int → Int)) (g3 : (Int → Int)) (g4 : (Int → Int)) (g9 : (Int → Int)) (g12 : (Int → Int)) (g13 : (Int → Int)) (g14 : (Int → Int)) (g15 : (Int → Int)) (g16 : (Int → Int)) (g17 : (Int → Int)) (g23 : (Int → Int)) (g24 : (Int → Int)) (q : Int × Int × Int × Int × Int × Int × Int × Int × Int × Int × Int × Int × Int × (Int → Int) × (Int → Int) × (Int → Int) × (Int → Int) × (Int → Int) × (Int → Int) × (Int → Int) × (Int → Int) × (Int → Int) × (Int → Int)), zf_Pilot_findByTwo_l1 x5 x6 f0 f11 f14 f16 f17 f19 f20 f21 f22 f23 f24 g5 g6 g7 g8 g10 g11 g12 g13 g14 g18 g19 g20 g21 g22 n x7 f3 f4 f5 f6 f7 f8 f9 f10 f12 f13 f15 f18 f25 g1 g2 g3 g4 g9 g15 g16 g17 g23 g24 = some q → (good 110 [.inr 0, .inr 1000, .inr 1000, .inr 1000, .inr 1000, .inr 1000, .inr 1000, .inr 1000] [] [.inl f0, .inr 5, .inr 6, .inl q.1, .inl q.2.1, .inl q.2.2.1, .inl q.2.2.2.1, .inl q.2.2.2.2.1, .inl q.2.2.2.2.2.1, .inl q.2.2.2.2.2.2.1, .inl q.2.2.2.2.2.2.2.1, .inl f11, .inl q.2.2.2.2.2.2.2.2.1, .inl q.2.2.2.2.2.2.2.2.2.1, .inl f14, .inl q.2.2.2.2.2.2.2.2.2.2.1, .inl f16, .inl f17, .inl q.2.2.2.2.2.2.2.2.2.2.2.1, .inl f19, .inl f20, .inl f21, .inl f22, .inl f23, .inl f24, .inl q.2.2.2.2.2.2.2.2.2.2.2.2.1, .inl f26, .inl f27, .inl f28, .inl f29] [g0, q.2.2.2.2.2.2.2.2.2.2.2.2.2.1, q.2.2.2.2.2.2.2.2.2.2.2.2.2.2.1, q.2.2.2.2.2.2.2.2.2.2.2.2.2.2.2.1, q.2.2.2.2.2.2.2.2.2.2.2.2.2.2.2.2.1, g5, g6, g7, g8, q.2.2.2.2.2.2.2.2.2.2.2.2.2.2.2.2.2.1, g10, g11, g12, g13, g14, q.2.2.2.2.2.2.2.2.2.2.2.2.2.2.2.2.2.2.1, q.2.2.2.2.2.2.2.2.2.2.2.2.2.2.2.2.2.2.2.1, q.2.2.2.2.2.2.2.2.2.2.2.2.2.2.2.2.2.2.2.2.1, g18, g19, g20, g21, g22, q.2.2.2.2.2.2.2.2.2.2.2.2.2.2.2.2.2.2.2.2.2.1, q.2.2.2.2.2.2.2.2.2.2.2.2.2.2.2.2.2.2.2.2.2.2]) → good 56 [.inr 0, .inr 1, .inr 2, .inr 3, .inr 1000, .inl x5, .inl x6, .inl x7] [] [.inl f0, .inr 5, .inr 6, .inl f3, .inl f4, .inl f5, .inl f6, .inl f7, .inl f8, .inl f9, .inl f10, .inl f11, .inl f12, .inl f13, .inl f14, .inl f15, .inl f16, .inl f17, .inl f18, .inl f19, .inl f20, .inl f21, .inl f22, .inl f23, .inl f24, .inl f25, .inl f26, .inl f27, .inl f28, .inl f29] [g0, g1, g2, g3, g4, g5, g6, g7, g8, g9, g10, g11, g12, g13, g14, g15, g16, g17, g18, g19, g20, g21, g22, g23, g24] := by
    intro n
    induction n with
    | zero => intro x5 x6 x7 f0 f3 f4 f5 f6 f7 f8 f9 f10 f12 f13 f15 f18 f25 f26 f27 f28 f29 g0 g1 g2 g3 g4 g9 g12 g13 g14 g15 g16 g17 g23 g24 q h; exact absurd (show none = some q from h) (fun h => by cases h)
    | succ n ih =>
      intro x5 x6 x7 f0 f3 f4 f5 f6 f7 f8 f9 f10 f12 f13 f15 f18 f25 f26 f27 f28 f29 g0 g1 g2 g3 g4 g9 g12 g13 g14 g15 g16 g17 g23 g24 q h hK
      replace h : zf_Pilot_findByTwo_l1_b x5 x6 f0 f11 f14 f16 f17 f19 f20 f21 f22 f23 f24 g5 g6 g7 g8 g10 g11 g12 g13 g14 g18 g19 g20 g21 g22 (zf_Pilot_findByTwo_l1 x5 x6 f0 f11 f14 f16 f17 f19 f20 f21 f22 f23 f24 g5 g6 g7 g8 g10 g11 g12 g13 g14 g18 g19 g20 g21 g22 n) x7 f3 f4 f5 f6 f7 f8 f9 f10 f12 f13 f15 f18 f25 g1 g2 g3 g4 g9 g15 g16 g17 g23 g24 = some q := h
      unfold zf_Pilot_findByTwo_l1_b at h
      refine zv_ild hB zd171_56 rfl rfl ?_
      refine zv_con hB zd171_58 rfl ?_
      refine zv_cge hB zd171_60 rfl (fun hc7 => ?_) (fun hc7 => ?_)
      · rw [if_neg (Int.not_lt.mpr hc7)] at h
        have hq := Option.some.inj h
        subst hq
        refine zv_wk hB (L' := [.inr 0, .inr 1000, .inr 1000, .inr 1000, .inr 1000, .inr 1000, .inr 1000, .inr 1000]) (F' := [.inl f0, .inr 5, .inr 6, .inl f3, .inl f4, .inl f5, .inl f6, .inl f7, .inl f8, .inl f9, .inl f10, .inl f11, .inl f12, .inl f13, .inl f14, .inl f15, .inl f16, .inl f17, .inl f18, .inl f19, .inl f20, .inl f21, .inl f22, .inl f23, .inl f24, .inl f25, .inl f26, .inl f27, .inl f28, .inl f29]) ⟨fun _ => rfl, fun (h : zv_is (.inr 1000)) => (Nat.lt_irrefl 1000 h).elim, fun (h : zv_is (.inr 1000)) => (Nat.lt_irrefl 1000 h).elim, fun (h : zv_is (.inr 1000)) => (Nat.lt_irrefl 1000 h).elim, fun (h : zv_is (.inr 1000)) => (Nat.lt_irrefl 1000 h).elim, fun (h : zv_is (.inr 1000)) => (Nat.lt_irrefl 1000 h).elim, fun (h : zv_is (.inr 1000)) => (Nat.lt_irrefl 1000 h).elim, fun (h : zv_is (.inr 1000)) => (Nat.lt_irrefl 1000 h).elim, trivial⟩ ⟨fun _ => rfl, fun _ => rfl, fun _ => rfl, fun _ => rfl, fun _ => rfl, fun _ => rfl, fun _ => rfl, fun _ => rfl, fun _ => rfl, fun _ => rfl, fun _ => rfl, fun _ => rfl, fun _ => rfl, fun _ => rfl, fun _ => rfl, fun _ => rfl, fun _ => rfl, fun _ => rfl, fun _ => rfl, fun _ => rfl, fun _ => rfl, fun _ => rfl, fun _ => rfl, fun _ => rfl, fun _ => rfl, fun _ => rfl, fun _ => rfl, fun _ => rfl, fun _ => rfl, fun _ => rfl, trivial⟩ ?_
        exact hK
      · rw [if_pos hc7] at h
        refine zv_ald hB zd171_63 rfl rfl rfl ?_
        refine zv_ild hB zd171_64 rfl rfl ?_
        obtain ⟨r8, hr8, h⟩ := zi_bind h
        refine zv_cv hB (zv_emq (va2 := [.inr 3, .inl x7]) (F := [.inl f0, .inr 5, .inr 6, .inl f3, .inl f4, .inl f5, .inl f6, .inl f7, .inl f8, .inl f9, .inl f10, .inl f11, .inl f12, .inl f13, .inl f14, .inl f15, .inl f16, .inl f17, .inl f18, .inl f19, .inl f20, .inl f21, .inl f22, .inl f23, .inl f24, .inl f25, .inl f26, .inl f27, .inl f28, .inl f29]) (F' := [.inl f0, .inr 5, .inr 6, .inl f3, .inl f4, .inl f5, .inl f6, .inl f7, .inl f8, .inl f9, .inl f10, .inl f11, .inl f12, .inl f13, .inl f14, .inl f15, .inl f16, .inl f17, .inl f18, .inl f19, .inl f20, .inl f21, .inl f22, .inl f23, .inl f24, .inl f25, .inl f26, .inl f27, .inl f28, .inl f29]) (G := [g0, g1, g2, g3, g4, g5, g6, g7, g8, g9, g10, g11, g12, g13, g14, g15, g16, g17, g18, g19, g20, g21, g22, g23, g24]) (G' := [g0, g1, g2, g3, g4, g5, g6, g7, g8, g9, g10, g11, g12, g13, g14, g15, g16, g17, g18, g19, g20, g21, g22, g23, g24]) (ρ := [3]) (φ := [17]) (ψ := []) [none, none, none, none, none, none, none, none, none, none, none, none, none, none, none, none, none, some 0, none, none, none, none, none, none, none, none, none, none, none, none] [none, none, none, none, none, none, none, none, none, none, none, none, none, none, none, none, none, none, none, none, none, none, none, none, none] zyw_Sky_hasStar zyw_Pilot_findByTwo zye_Pilot_findByTwo (by decide +kernel) (zt_Sky_hasStar hr8) ⟨⟨_, rfl, fun _ => rfl⟩, trivial⟩ trivial rfl rfl rfl rfl rfl rfl rfl) zd171_66 zxt18 rfl (by decide) (by decide) rfl ?_
        refine zv_zeq hB zd171_69 rfl (fun hc9 => ?_) (fun hc9 => ?_)
        · rw [if_pos hc9] at h
          refine zv_iincw hB zd171_104 rfl rfl ?_
          refine zv_goto hB zd171_107 rfl ?_
          exact ih _ _ _ _ _ _ _ _ _ _ _ _ _ _ _ _ _ _ _ _ _ _ _ _ _ _ _ _ _ _ _ _ _ _ _ q h hK
        · rw [if_neg hc9] at h
          refine zv_ald hB zd171_72 rfl rfl rfl ?_
          refine zv_getq hB zd171_73 rfl rfl rfl ?_
          refine zv_ald hB zd171_76 rfl rfl rfl ?_
          obtain ⟨r10, hr10, h⟩ := zi_bind h
          refine zv_cv hB (zv_emq (va2 := [.inr 5, .inr 3]) (F := [.inl f0, .inr 5, .inr 6, .inl f3, .inl f4, .inl f5, .inl f6, .inl f7, .inl f8, .inl f9, .inl f10, .inl f11, .inl f12, .inl f13, .inl f14, .inl f15, .inl f16, .inl f17, .inl f18, .inl f19, .inl f20, .inl f21, .inl f22, .inl f23, .inl f24, .inl f25, .inl f26, .inl f27, .inl f28, .inl f29]) (F' := [.inl f0, .inr 5, .inr 6, .inl r10.1, .inl f4, .inl f5, .inl r10.2.1, .inl r10.2.2.1, .inl r10.2.2.2.2.1, .inl r10.2.2.2.2.2.1, .inl r10.2.2.2.1, .inl f11, .inl f12, .inl f13, .inl f14, .inl f15, .inl f16, .inl f17, .inl f18, .inl f19, .inl f20, .inl f21, .inl f22, .inl f23, .inl f24, .inl r10.2.2.2.2.2.2.1, .inl f26, .inl f27, .inl f28, .inl f29]) (G := [g0, g1, g2, g3, g4, g5, g6, g7, g8, g9, g10, g11, g12, g13, g14, g15, g16, g17, g18, g19, g20, g21, g22, g23, g24]) (G' := [g0, g1, r10.2.2.2.2.2.2.2.1, r10.2.2.2.2.2.2.2.2.1, r10.2.2.2.2.2.2.2.2.2.1, g5, g6, g7, g8, g9, g10, g11, g12, g13, g14, r10.2.2.2.2.2.2.2.2.2.2.1, r10.2.2.2.2.2.2.2.2.2.2.2, g17, g18, g19, g20, g21, g22, g23, g24]) (ρ := [5, 3, 24, 8, 25, 9, 26, 10, 27, 21, 28, 22]) (φ := [17, 3, 19, 6, 20, 7, 21, 10, 22, 8, 23, 9, 24, 25]) (ψ := [18, 2, 19, 3, 20, 4, 21, 15, 22, 16]) [none, none, none, some 1, none, none, some 3, some 5, some 9, some 11, some 7, none, none, none, none, none, none, some 0, none, some 2, some 4, some 6, some 8, some 10, some 12, some 13, none, none, none, none] [none, none, some 1, some 3, some 5, none, none, none, none, none, none, none, none, none, none, some 7, some 9, none, some 0, some 2, some 4, some 6, some 8, none, none] zyw_Sky_copyFrom zyw_Pilot_findByTwo zye_Pilot_findByTwo (by decide +kernel) (zt_Sky_copyFrom hr10) ⟨⟨_, rfl, fun _ => rfl⟩, ⟨_, rfl, fun _ => rfl⟩, ⟨_, rfl, fun _ => rfl⟩, ⟨_, rfl, fun _ => rfl⟩, ⟨_, rfl, fun _ => rfl⟩, ⟨_, rfl, fun _ => rfl⟩, ⟨_, rfl, fun _ => rfl⟩, ⟨_, rfl, fun _ => rfl⟩, ⟨_, rfl, fun _ => rfl⟩, ⟨_, rfl, fun _ => rfl⟩, ⟨_, rfl, fun _ => rfl⟩, ⟨_, rfl, fun _ => rfl⟩, ⟨_, rfl, fun _ => rfl⟩, ⟨_, rfl, fun _ => rfl⟩, trivial⟩ ⟨rfl, rfl, rfl, rfl, rfl, rfl, rfl, rfl, rfl, rfl, trivial⟩ rfl rfl rfl rfl rfl rfl rfl) zd171_77 zxt125 rfl (by decide) (by decide) rfl ?_
          refine zv_ald hB zd171_80 rfl rfl rfl ?_
          refine zv_ald hB zd171_81 rfl rfl rfl ?_
          refine zv_getq hB zd171_82 rfl rfl rfl ?_
          refine zv_ald hB zd171_85 rfl rfl rfl ?_
          refine zv_getq hB zd171_86 rfl rfl rfl ?_
          obtain ⟨r11, hr11, h⟩ := zi_bind h
          refine zv_cv hB (zv_emq (va2 := [.inr 1, .inr 5, .inr 6]) (F := [.inl f0, .inr 5, .inr 6, .inl r10.1, .inl f4, .inl f5, .inl r10.2.1, .inl r10.2.2.1, .inl r10.2.2.2.2.1, .inl r10.2.2.2.2.2.1, .inl r10.2.2.2.1, .inl f11, .inl f12, .inl f13, .inl f14, .inl f15, .inl f16, .inl f17, .inl f18, .inl f19, .inl f20, .inl f21, .inl f22, .inl f23, .inl f24, .inl r10.2.2.2.2.2.2.1, .inl f26, .inl f27, .inl f28, .inl f29]) (F' := [.inl f0, .inr 5, .inr 6, .inl r10.1, .inl f4, .inl f5, .inl r10.2.1, .inl r10.2.2.1, .inl r10.2.2.2.2.1, .inl r10.2.2.2.2.2.1, .inl r10.2.2.2.1, .inl f11, .inl r11.1, .inl f13, .inl f14, .inl f15, .inl f16, .inl f17, .inl f18, .inl f19, .inl f20, .inl f21, .inl f22, .inl f23, .inl f24, .inl r10.2.2.2.2.2.2.1, .inl f26, .inl f27, .inl f28, .inl f29]) (G := [g0, g1, r10.2.2.2.2.2.2.2.1, r10.2.2.2.2.2.2.2.2.1, r10.2.2.2.2.2.2.2.2.2.1, g5, g6, g7, g8, g9, g10, g11, g12, g13, g14, r10.2.2.2.2.2.2.2.2.2.2.1, r10.2.2.2.2.2.2.2.2.2.2.2, g17, g18, g19, g20, g21, g22, g23, g24]) (G' := [g0, g1, r10.2.2.2.2.2.2.2.1, r10.2.2.2.2.2.2.2.2.1, r10.2.2.2.2.2.2.2.2.2.1, g5, g6, g7, g8, g9, g10, g11, g12, g13, g14, r10.2.2.2.2.2.2.2.2.2.2.1, r10.2.2.2.2.2.2.2.2.2.2.2, r11.2, g18, g19, g20, g21, g22, g23, g24]) (ρ := [1, 5, 6, 23]) (φ := [1, 2, 12]) (ψ := [17]) [none, some 0, some 1, none, none, none, none, none, none, none, none, none, some 2, none, none, none, none, none, none, none, none, none, none, none, none, none, none, none, none, none] [none, none, none, none, none, none, none, none, none, none, none, none, none, none, none, none, none, some 0, none, none, none, none, none, none, none] zyw_View_open zyw_Pilot_findByTwo zye_Pilot_findByTwo (by decide +kernel) (zt_View_open hr11) ⟨⟨_, rfl, fun (h : zv_is (.inr 1000)) => (Nat.lt_irrefl 1000 h).elim⟩, ⟨_, rfl, fun (h : zv_is (.inr 1000)) => (Nat.lt_irrefl 1000 h).elim⟩, ⟨_, rfl, fun _ => rfl⟩, trivial⟩ ⟨rfl, trivial⟩ rfl rfl rfl rfl rfl rfl rfl) zd171_89 zxt84 rfl (by decide) (by decide) rfl ?_
          refine zv_ald hB zd171_92 rfl rfl rfl ?_
          refine zv_ald hB zd171_93 rfl rfl rfl ?_
          refine zv_ald hB zd171_94 rfl rfl rfl ?_
          refine zv_ild hB zd171_95 rfl rfl ?_
          refine zv_ild hB zd171_97 rfl rfl ?_
          refine zv_ild hB zd171_99 rfl rfl ?_
          obtain ⟨r12, hr12, h⟩ := zi_bind h
          refine zv_cv hB (zv_emq (va2 := [.inr 0, .inr 1, .inr 2, .inl x7, .inl x5, .inl x6]) (F := [.inl f0, .inr 5, .inr 6, .inl r10.1, .inl f4, .inl f5, .inl r10.2.1, .inl r10.2.2.1, .inl r10.2.2.2.2.1, .inl r10.2.2.2.2.2.1, .inl r10.2.2.2.1, .inl f11, .inl r11.1, .inl f13, .inl f14, .inl f15, .inl f16, .inl f17, .inl f18, .inl f19, .inl f20, .inl f21, .inl f22, .inl f23, .inl f24, .inl r10.2.2.2.2.2.2.1, .inl f26, .inl f27, .inl f28, .inl f29]) (F' := [.inl f0, .inr 5, .inr 6, .inl r10.1, .inl r12.2.1, .inl r12.2.2.1, .inl r12.2.2.2.1, .inl r12.2.2.2.2.1, .inl r10.2.2.2.2.1, .inl r10.2.2.2.2.2.1, .inl r10.2.2.2.1, .inl f11, .inl r12.2.2.2.2.2.1, .inl r12.2.2.2.2.2.2.1, .inl f14, .inl r12.2.2.2.2.2.2.2.1, .inl f16, .inl f17, .inl r12.1, .inl f19, .inl f20, .inl f21, .inl f22, .inl f23, .inl f24, .inl r10.2.2.2.2.2.2.1, .inl f26, .inl f27, .inl f28, .inl f29]) (G := [g0, g1, r10.2.2.2.2.2.2.2.1, r10.2.2.2.2.2.2.2.2.1, r10.2.2.2.2.2.2.2.2.2.1, g5, g6, g7, g8, g9, g10, g11, g12, g13, g14, r10.2.2.2.2.2.2.2.2.2.2.1, r10.2.2.2.2.2.2.2.2.2.2.2, r11.2, g18, g19, g20, g21, g22, g23, g24]) (G' := [g0, r12.2.2.2.2.2.2.2.2.2.2.1, r12.2.2.2.2.2.2.2.2.2.2.2.1, r12.2.2.2.2.2.2.2.2.2.2.2.2.1, r10.2.2.2.2.2.2.2.2.2.1, g5, g6, g7, g8, r12.2.2.2.2.2.2.2.2.2.2.2.2.2.1, g10, g11, g12, g13, g14, r10.2.2.2.2.2.2.2.2.2.2.1, r10.2.2.2.2.2.2.2.2.2.2.2, r12.2.2.2.2.2.2.2.2.2.2.2.2.2.2, g18, g19, g20, g21, g22, r12.2.2.2.2.2.2.2.2.1, r12.2.2.2.2.2.2.2.2.2.1]) (ρ := [0, 1, 2, 29, 19, 30, 18, 6, 7, 5, 8, 9, 10, 11, 12, 13, 14, 15, 16, 17, 20, 21, 22, 23]) (φ := [18, 0, 2, 1, 4, 5, 6, 7, 3, 8, 9, 10, 11, 12, 13, 14, 15, 16]) (ψ := [23, 13, 24, 12, 1, 2, 3, 4, 5, 6, 7, 8, 9, 10, 11, 14, 15, 16, 17]) [some 1, some 3, some 2, some 8, some 4, some 5, some 6, some 7, some 9, some 10, some 11, some 12, some 13, some 14, some 15, some 16, some 17, none, some 0, none, none, none, none, none, none, none, none, none, none, none] [none, some 4, some 5, some 6, some 7, some 8, some 9, some 10, some 11, some 12, some 13, some 14, some 3, some 1, some 15, some 16, some 17, some 18, none, none, none, none, none, some 0, some 2] zyw_Pilot_followSecond zyw_Pilot_findByTwo zye_Pilot_findByTwo (by decide +kernel) (zt_Pilot_followSecond hr12) ⟨⟨_, rfl, fun _ => rfl⟩, ⟨_, rfl, fun _ => rfl⟩, ⟨_, rfl, fun _ => rfl⟩, ⟨_, rfl, fun _ => rfl⟩, ⟨_, rfl, fun _ => rfl⟩, ⟨_, rfl, fun _ => rfl⟩, ⟨_, rfl, fun _ => rfl⟩, ⟨_, rfl, fun _ => rfl⟩, ⟨_, rfl, fun _ => rfl⟩, ⟨_, rfl, fun _ => rfl⟩, ⟨_, rfl, fun _ => rfl⟩, ⟨_, rfl, fun _ => rfl⟩, ⟨_, rfl, fun _ => rfl⟩, ⟨_, rfl, fun _ => rfl⟩, ⟨_, rfl, fun _ => rfl⟩, ⟨_, rfl, fun _ => rfl⟩, ⟨_, rfl, fun _ => rfl⟩, ⟨_, rfl, fun _ => rfl⟩, trivial⟩ ⟨rfl, rfl, rfl, rfl, rfl, rfl, rfl, rfl, rfl, rfl, rfl, rfl, rfl, rfl, rfl, rfl, rfl, rfl, rfl, trivial⟩ rfl rfl rfl rfl rfl rfl rfl) zd171_101 zxt174 rfl (by decide) (by decide) rfl ?_
          refine zv_iincw hB zd171_104 rfl rfl ?_
          refine zv_goto hB zd171_107 rfl ?_
          exact ih _ _ _ _ _ _ _ _ _ _ _ _ _ _ _ _ _ _ _ _ _ _ _ _ _ _ _ _ _ _ _ _ _ _ _ q h hK
  unfold zf_Pilot_findByTwo at h
  refine zv_ald hB zd171_0 rfl rfl rfl ?_
  refine zv_con hB zd171_1 rfl ?_
  refine zv_putf hB zd171_2 rfl rfl (fun h => by cases h) rfl ?_
  refine zv_ald hB zd171_5 rfl rfl rfl ?_
  refine zv_getr hB zd171_6 rfl ?_
  refine zv_ild hB zd171_9 rfl rfl ?_
  obtain ⟨r1, hr1, h⟩ := zi_bind h
  refine zv_cs hB (zv_emq (va2 := [.inr 4, .inl x4]) (F := [.inl 0, .inr 5, .inr 6, .inl f3, .inl f4, .inl f5, .inl f6, .inl f7, .inl f8, .inl f9, .inl f10, .inl f11, .inl f12, .inl f13, .inl f14, .inl f15, .inl f16, .inl f17, .inl f18, .inl f19, .inl f20, .inl f21, .inl f22, .inl f23, .inl f24, .inl f25, .inl f26, .inl f27, .inl f28, .inl f29]) (F' := [.inl 0, .inr 5, .inr 6, .inl f3, .inl f4, .inl f5, .inl f6, .inl f7, .inl f8, .inl f9, .inl f10, .inl f11, .inl f12, .inl f13, .inl f14, .inl f15, .inl f16, .inl f17, .inl f18, .inl f19, .inl f20, .inl f21, .inl f22, .inl f23, .inl f24, .inl f25, .inl f26, .inl f27, .inl f28, .inl f29]) (G := [g0, g1, g2, g3, g4, g5, g6, g7, g8, g9, g10, g11, g12, g13, g14, g15, g16, g17, g18, g19, g20, g21, g22, g23, g24]) (G' := [r1, g1, g2, g3, g4, g5, g6, g7, g8, g9, g10, g11, g12, g13, g14, g15, g16, g17, g18, g19, g20, g21, g22, g23, g24]) (ρ := [4]) (φ := []) (ψ := [0]) [none, none, none, none, none, none, none, none, none, none, none, none, none, none, none, none, none, none, none, none, none, none, none, none, none, none, none, none, none, none] [some 0, none, none, none, none, none, none, none, none, none, none, none, none, none, none, none, none, none, none, none, none, none, none, none, none] zyw_Arrays_fill_24 zyw_Pilot_findByTwo zye_Pilot_findByTwo (by decide +kernel) (zt_Arrays_fill_24 hr1) trivial ⟨rfl, trivial⟩ rfl rfl rfl rfl rfl rfl rfl) zd171_11 zxt78 rfl (by decide) (by decide) rfl ?_
  refine zv_con hB zd171_14 rfl ?_
  refine zv_ist hB zd171_15 rfl rfl rfl ?_
  obtain ⟨q6, hq6, h⟩ := zi_bind h
  refine zv_wk hB (L' := [.inr 0, .inr 1, .inr 2, .inr 3, .inr 1000, .inl x5, .inl x6, .inl 1]) (F' := [.inl 0, .inr 5, .inr 6, .inl f3, .inl f4, .inl f5, .inl f6, .inl f7, .inl f8, .inl f9, .inl f10, .inl f11, .inl f12, .inl f13, .inl f14, .inl f15, .inl f16, .inl f17, .inl f18, .inl f19, .inl f20, .inl f21, .inl f22, .inl f23, .inl f24, .inl f25, .inl f26, .inl f27, .inl f28, .inl f29]) ⟨fun _ => rfl, fun _ => rfl, fun _ => rfl, fun _ => rfl, fun (h : zv_is (.inr 1000)) => (Nat.lt_irrefl 1000 h).elim, fun _ => rfl, fun _ => rfl, fun _ => rfl, trivial⟩ ⟨fun _ => rfl, fun _ => rfl, fun _ => rfl, fun _ => rfl, fun _ => rfl, fun _ => rfl, fun _ => rfl, fun _ => rfl, fun _ => rfl, fun _ => rfl, fun _ => rfl, fun _ => rfl, fun _ => rfl, fun _ => rfl, fun _ => rfl, fun _ => rfl, fun _ => rfl, fun _ => rfl, fun _ => rfl, fun _ => rfl, fun _ => rfl, fun _ => rfl, fun _ => rfl, fun _ => rfl, fun _ => rfl, fun _ => rfl, fun _ => rfl, fun _ => rfl, fun _ => rfl, fun _ => rfl, trivial⟩ ?_
  refine l0 _ _ _ _ _ _ _ _ _ _ _ _ _ _ _ _ _ _ _ _ _ _ _ _ _ _ _ _ _ _ _ _ _ _ _ _ q6 hq6 ?_
  show good 48 [.inr 0, .inr 1, .inr 2, .inr 3, .inr 1000, .inl x5, .inl x6, .inr 1000] [] [.inl q6.1, .inr 5, .inr 6, .inl f3, .inl q6.2.1, .inl q6.2.2.1, .inl q6.2.2.2.1, .inl q6.2.2.2.2.1, .inl f8, .inl f9, .inl f10, .inl f11, .inl q6.2.2.2.2.2.1, .inl q6.2.2.2.2.2.2.1, .inl f14, .inl q6.2.2.2.2.2.2.2.1, .inl f16, .inl f17, .inl f18, .inl f19, .inl f20, .inl f21, .inl f22, .inl f23, .inl f24, .inl f25, .inl f26, .inl f27, .inl f28, .inl f29] [q6.2.2.2.2.2.2.2.2.1, q6.2.2.2.2.2.2.2.2.2.1, q6.2.2.2.2.2.2.2.2.2.2.1, q6.2.2.2.2.2.2.2.2.2.2.2.1, g4, g5, g6, g7, g8, q6.2.2.2.2.2.2.2.2.2.2.2.2.1, g10, g11, q6.2.2.2.2.2.2.2.2.2.2.2.2.2.1, q6.2.2.2.2.2.2.2.2.2.2.2.2.2.2.1, q6.2.2.2.2.2.2.2.2.2.2.2.2.2.2.2.1, g15, g16, q6.2.2.2.2.2.2.2.2.2.2.2.2.2.2.2.2, g18, g19, g20, g21, g22, g23, g24]
  refine zv_ald hB zd171_48 rfl rfl rfl ?_
  refine zv_con hB zd171_49 rfl ?_
  refine zv_putf hB zd171_50 rfl rfl (fun h => by cases h) rfl ?_
  refine zv_con hB zd171_53 rfl ?_
  refine zv_ist hB zd171_54 rfl rfl rfl ?_
  obtain ⟨q13, hq13, h⟩ := zi_bind h
  refine l1 _ _ _ _ _ _ _ _ _ _ _ _ _ _ _ _ _ _ _ _ _ _ _ _ _ _ _ _ _ _ _ _ _ _ _ _ q13 hq13 ?_
  show good 110 [.inr 0, .inr 1000, .inr 1000, .inr 1000, .inr 1000, .inr 1000, .inr 1000, .inr 1000] [] [.inl q6.1, .inr 5, .inr 6, .inl q13.1, .inl q13.2.1, .inl q13.2.2.1, .inl q13.2.2.2.1, .inl q13.2.2.2.2.1, .inl q13.2.2.2.2.2.1, .inl q13.2.2.2.2.2.2.1, .inl q13.2.2.2.2.2.2.2.1, .inl f11, .inl q13.2.2.2.2.2.2.2.2.1, .inl q13.2.2.2.2.2.2.2.2.2.1, .inl f14, .inl q13.2.2.2.2.2.2.2.2.2.2.1, .inl f16, .inl f17, .inl q13.2.2.2.2.2.2.2.2.2.2.2.1, .inl f19, .inl f20, .inl f21, .inl f22, .inl f23, .inl f24, .inl q13.2.2.2.2.2.2.2.2.2.2.2.2.1, .inl f26, .inl f27, .inl f28, .inl f29] [q6.2.2.2.2.2.2.2.2.1, q13.2.2.2.2.2.2.2.2.2.2.2.2.2.1, q13.2.2.2.2.2.2.2.2.2.2.2.2.2.2.1, q13.2.2.2.2.2.2.2.2.2.2.2.2.2.2.2.1, q13.2.2.2.2.2.2.2.2.2.2.2.2.2.2.2.2.1, g5, g6, g7, g8, q13.2.2.2.2.2.2.2.2.2.2.2.2.2.2.2.2.2.1, g10, g11, q6.2.2.2.2.2.2.2.2.2.2.2.2.2.1, q6.2.2.2.2.2.2.2.2.2.2.2.2.2.2.1, q6.2.2.2.2.2.2.2.2.2.2.2.2.2.2.2.1, q13.2.2.2.2.2.2.2.2.2.2.2.2.2.2.2.2.2.2.1, q13.2.2.2.2.2.2.2.2.2.2.2.2.2.2.2.2.2.2.2.1, q13.2.2.2.2.2.2.2.2.2.2.2.2.2.2.2.2.2.2.2.2.1, g18, g19, g20, g21, g22, q13.2.2.2.2.2.2.2.2.2.2.2.2.2.2.2.2.2.2.2.2.2.1, q13.2.2.2.2.2.2.2.2.2.2.2.2.2.2.2.2.2.2.2.2.2.2]
  refine zv_ald hB zd171_110 rfl rfl rfl ?_
  refine zv_getf hB zd171_111 rfl rfl (fun _ _ => ?_)
  refine zv_con hB zd171_114 rfl ?_
  refine zv_cne hB zd171_115 rfl (fun hc14 => ?_) (fun hc14 => ?_)
  · rw [if_neg hc14] at h
    refine zv_ald hB zd171_120 rfl rfl rfl ?_
    refine zv_ald hB zd171_121 rfl rfl rfl ?_
    refine zv_getf hB zd171_122 rfl rfl (fun _ _ => ?_)
    refine zv_con hB zd171_125 rfl ?_
    refine zv_divw hB zd171_128 (by decide) ?_
    refine zv_putf hB zd171_129 rfl rfl (fun h => by cases h) rfl ?_
    refine zv_ald hB zd171_132 rfl rfl rfl ?_
    refine zv_ald hB zd171_133 rfl rfl rfl ?_
    refine zv_getf hB zd171_134 rfl rfl (fun _ _ => ?_)
    refine zv_con hB zd171_137 rfl ?_
    refine zv_divw hB zd171_140 (by decide) ?_
    refine zv_con hB zd171_141 rfl ?_
    refine zv_remw hB zd171_143 (by decide) ?_
    refine zv_putf hB zd171_144 rfl rfl (fun h => by cases h) rfl ?_
    refine zv_ald hB zd171_147 rfl rfl rfl ?_
    refine zv_ald hB zd171_148 rfl rfl rfl ?_
    refine zv_getf hB zd171_149 rfl rfl (fun _ _ => ?_)
    refine zv_con hB zd171_152 rfl ?_
    refine zv_divw hB zd171_154 (by decide) ?_
    refine zv_con hB zd171_155 rfl ?_
    refine zv_remw hB zd171_157 (by decide) ?_
    refine zv_putf hB zd171_158 rfl rfl (fun h => by cases h) rfl ?_
    refine zv_ald hB zd171_161 rfl rfl rfl ?_
    refine zv_ald hB zd171_162 rfl rfl rfl ?_
    refine zv_getf hB zd171_163 rfl rfl (fun _ _ => ?_)
    refine zv_con hB zd171_166 rfl ?_
    refine zv_remw hB zd171_168 (by decide) ?_
    refine zv_putf hB zd171_169 rfl rfl (fun h => by cases h) rfl ?_
    refine zv_con hB zd171_172 rfl ?_
    have hw := Option.some.inj h
    subst hw
    exact hret _ _ _ _ _ zd171_173 (by constructor <;> decide) ⟨rfl, rfl, rfl⟩
  · rw [if_pos hc14] at h
    refine zv_con hB zd171_118 rfl ?_
    have hw := Option.some.inj h
    subst hw
    exact hret _ _ _ _ _ zd171_119 (by constructor <;> decide) ⟨rfl, rfl, rfl⟩
end
