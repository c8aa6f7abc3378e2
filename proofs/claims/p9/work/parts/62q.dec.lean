/-! Methods as functions, and that they do what these do. -/
/-! M_both (III)I -/
-- names: 0 StarTalesModel('arg', 0), 1 (0, 422)(0, 12, 0), 2 (0, 14)(0, 12, 21), 3 (0, 13)(0, 12, 26), 4 (0, 14)(0, 12, 23), 5 (0, 14)(0, 12, 24), 6 (0, 220)(0, 12, 20), 7 (0, 220)(0, 12, 25), 8 (0, 24)(0, 12, 28), 9 (0, 24)(0, 12, 59), 10 (0, 8)(0, 12, 38), 11 (0, 8)(0, 12, 39), 12 (0, 12)(0, 12, 34), 13 (0, 12)(0, 12, 35), 14 (0, 8)(0, 12, 40)
-- fields: f0 = 0.clauses_, f1 = 0.seen0_, f2 = 0.taleLines_, f3 = 0.nameMany_, f4 = 0.namesIn_; arrays: g0 = 1, g1 = 2, g2 = 3, g3 = 4, g4 = 5, g5 = 6, g6 = 7, g7 = 8, g8 = 9, g9 = 10, g10 = 11, g11 = 12, g12 = 13, g13 = 14; out: [('ret', None), ('f', 1), ('f', 3), ('g', 2), ('g', 6), ('g', 7), ('g', 8), ('g', 9), ('g', 10), ('g', 13)]
abbrev zy_M_both : zNL := (15, [(0, 12)], [(0, 12, 13, 0), (0, 12, 27, 1), (0, 12, 31, 2), (0, 12, 41, 3), (0, 12, 33, 4)], [(0, 12, 0, 1), (0, 12, 21, 2), (0, 12, 26, 3), (0, 12, 23, 4), (0, 12, 24, 5), (0, 12, 20, 6), (0, 12, 25, 7), (0, 12, 28, 8), (0, 12, 59, 9), (0, 12, 38, 10), (0, 12, 39, 11), (0, 12, 34, 12), (0, 12, 35, 13), (0, 12, 40, 14)], [(1, 0, 422, 0), (2, 0, 14, 1), (3, 0, 13, 2), (4, 0, 14, 3), (5, 0, 14, 4), (6, 0, 220, 5), (7, 0, 220, 6), (8, 0, 24, 7), (9, 0, 24, 8), (10, 0, 8, 9), (11, 0, 8, 10), (12, 0, 12, 11), (13, 0, 12, 12), (14, 0, 8, 13)])
theorem zyw_M_both : zv_wf zy_M_both = true := by decide +kernel
theorem zye_M_both : zv_ek2 zy_M_both = true := by decide +kernel
def zf_M_both (x1 : Int) (x2 : Int) (x3 : Int) (f0 : Int) (f1 : Int) (f2 : Int) (f3 : Int) (f4 : Int) (g0 : (Int → Int)) (g1 : (Int → Int)) (g2 : (Int → Int)) (g3 : (Int → Int)) (g4 : (Int → Int)) (g5 : (Int → Int)) (g6 : (Int → Int)) (g7 : (Int → Int)) (g8 : (Int → Int)) (g9 : (Int → Int)) (g10 : (Int → Int)) (g11 : (Int → Int)) (g12 : (Int → Int)) (g13 : (Int → Int)) : Option (Int × Int × Int × (Int → Int) × (Int → Int) × (Int → Int) × (Int → Int) × (Int → Int) × (Int → Int) × (Int → Int)) := (zf_M_in x1 0 287).bind fun r1 => (if r1 = 0 then (some ((-1), f1, f3, g2, g6, g7, g8, g9, g10, g13)) else ((zf_M_in x2 0 287).bind fun r3 => (if r3 = 0 then (some ((-1), f1, f3, g2, g6, g7, g8, g9, g10, g13)) else ((zf_M_in x3 0 2).bind fun r5 => (if r5 = 0 then (some ((-1), f1, f3, g2, g6, g7, g8, g9, g10, g13)) else (if x3 = 0 then (if f2 = 0 then (some ((-1), f1, f3, g2, g6, g7, g8, g9, g10, g13)) else ((zf_M_looksBoth x1 x2 f0 f1 g0 g1 g2 g3 g4 g5 g6 g7 g8).bind fun r13 => ((zf_M_ways 10000 f3 f4 r13.1 f2 g9 g10 g11 g12 r13.2.2.2.1 g13).bind fun r15 => (some (r15.1, r13.1, r15.2.1, r13.2.1, r13.2.2.1, r13.2.2.2.1, r13.2.2.2.2, r15.2.2.1, r15.2.2.2.1, r15.2.2.2.2))))) else ((zf_M_looksBoth x1 x2 f0 f1 g0 g1 g2 g3 g4 g5 g6 g7 g8).bind fun r8 => (if x3 = 1 then (some (r8.1, r8.1, f3, r8.2.1, r8.2.2.1, r8.2.2.2.1, r8.2.2.2.2, g9, g10, g13)) else ((zf_M_lineMany r8.2.2.2.1).bind fun r11 => (some (r11, r8.1, f3, r8.2.1, r8.2.2.1, r8.2.2.2.1, r8.2.2.2.2, g9, g10, g13)))))))))))
theorem zd310_0 : decode zxm310.2.1 0 = .ok (.iload_n 1, 1) := by decide +kernel
theorem zd310_1 : decode zxm310.2.1 1 = .ok (.iconst 0, 1) := by decide +kernel
theorem zd310_2 : decode zxm310.2.1 2 = .ok (.sipush 287, 3) := by decide +kernel
theorem zd310_5 : decode zxm310.2.1 5 = .ok (.invokestatic 150, 3) := by decide +kernel
theorem zd310_8 : decode zxm310.2.1 8 = .ok (.ifCond .eq 34, 3) := by decide +kernel
theorem zd310_11 : decode zxm310.2.1 11 = .ok (.iload_n 2, 1) := by decide +kernel
theorem zd310_12 : decode zxm310.2.1 12 = .ok (.iconst 0, 1) := by decide +kernel
theorem zd310_13 : decode zxm310.2.1 13 = .ok (.sipush 287, 3) := by decide +kernel
theorem zd310_16 : decode zxm310.2.1 16 = .ok (.invokestatic 150, 3) := by decide +kernel
theorem zd310_19 : decode zxm310.2.1 19 = .ok (.ifCond .eq 23, 3) := by decide +kernel
theorem zd310_22 : decode zxm310.2.1 22 = .ok (.iload_n 3, 1) := by decide +kernel
theorem zd310_23 : decode zxm310.2.1 23 = .ok (.iconst 0, 1) := by decide +kernel
theorem zd310_24 : decode zxm310.2.1 24 = .ok (.iconst 2, 1) := by decide +kernel
theorem zd310_25 : decode zxm310.2.1 25 = .ok (.invokestatic 150, 3) := by decide +kernel
theorem zd310_28 : decode zxm310.2.1 28 = .ok (.ifCond .eq 14, 3) := by decide +kernel
theorem zd310_31 : decode zxm310.2.1 31 = .ok (.iload_n 3, 1) := by decide +kernel
theorem zd310_32 : decode zxm310.2.1 32 = .ok (.ifCond .ne 12, 3) := by decide +kernel
theorem zd310_35 : decode zxm310.2.1 35 = .ok (.aload_n 0, 1) := by decide +kernel
theorem zd310_36 : decode zxm310.2.1 36 = .ok (.getfield 351, 3) := by decide +kernel
theorem zd310_39 : decode zxm310.2.1 39 = .ok (.ifCond .ne 5, 3) := by decide +kernel
theorem zd310_42 : decode zxm310.2.1 42 = .ok (.iconst (-1), 1) := by decide +kernel
theorem zd310_43 : decode zxm310.2.1 43 = .ok (.ireturn, 1) := by decide +kernel
theorem zd310_44 : decode zxm310.2.1 44 = .ok (.aload_n 0, 1) := by decide +kernel
theorem zd310_45 : decode zxm310.2.1 45 = .ok (.iload_n 1, 1) := by decide +kernel
theorem zd310_46 : decode zxm310.2.1 46 = .ok (.iload_n 2, 1) := by decide +kernel
theorem zd310_47 : decode zxm310.2.1 47 = .ok (.invokevirtual 469, 3) := by decide +kernel
theorem zd310_50 : decode zxm310.2.1 50 = .ok (.iload_n 3, 1) := by decide +kernel
theorem zd310_51 : decode zxm310.2.1 51 = .ok (.ifCond .ne 13, 3) := by decide +kernel
theorem zd310_54 : decode zxm310.2.1 54 = .ok (.aload_n 0, 1) := by decide +kernel
theorem zd310_55 : decode zxm310.2.1 55 = .ok (.sipush 10000, 3) := by decide +kernel
theorem zd310_58 : decode zxm310.2.1 58 = .ok (.invokevirtual 366, 3) := by decide +kernel
theorem zd310_61 : decode zxm310.2.1 61 = .ok (.goto 19, 3) := by decide +kernel
theorem zd310_64 : decode zxm310.2.1 64 = .ok (.iload_n 3, 1) := by decide +kernel
theorem zd310_65 : decode zxm310.2.1 65 = .ok (.iconst 1, 1) := by decide +kernel
theorem zd310_66 : decode zxm310.2.1 66 = .ok (.if_icmp .ne 10, 3) := by decide +kernel
theorem zd310_69 : decode zxm310.2.1 69 = .ok (.aload_n 0, 1) := by decide +kernel
theorem zd310_70 : decode zxm310.2.1 70 = .ok (.getfield 303, 3) := by decide +kernel
theorem zd310_73 : decode zxm310.2.1 73 = .ok (.goto 7, 3) := by decide +kernel
theorem zd310_76 : decode zxm310.2.1 76 = .ok (.aload_n 0, 1) := by decide +kernel
theorem zd310_77 : decode zxm310.2.1 77 = .ok (.invokevirtual 333, 3) := by decide +kernel
theorem zd310_80 : decode zxm310.2.1 80 = .ok (.ireturn, 1) := by decide +kernel
theorem zt_M_both {x1 : Int} {x2 : Int} {x3 : Int} {f0 : Int} {f1 : Int} {f2 : Int} {f3 : Int} {f4 : Int} {g0 : (Int → Int)} {g1 : (Int → Int)} {g2 : (Int → Int)} {g3 : (Int → Int)} {g4 : (Int → Int)} {g5 : (Int → Int)} {g6 : (Int → Int)} {g7 : (Int → Int)} {g8 : (Int → Int)} {g9 : (Int → Int)} {g10 : (Int → Int)} {g11 : (Int → Int)} {g12 : (Int → Int)} {g13 : (Int → Int)} {o : Int × Int × Int × (Int → Int) × (Int → Int) × (Int → Int) × (Int → Int) × (Int → Int) × (Int → Int) × (Int → Int)} (h : zf_M_both x1 x2 x3 f0 f1 f2 f3 f4 g0 g1 g2 g3 g4 g5 g6 g7 g8 g9 g10 g11 g12 g13 = some o) : zv_Fn z_TB z_cl z_KX zy_M_both zxm310 (7, 420) [.inr 0, .inl x1, .inl x2, .inl x3] [.inl f0, .inl f1, .inl f2, .inl f3, .inl f4] [g0, g1, g2, g3, g4, g5, g6, g7, g8, g9, g10, g11, g12, g13] (some o.1) [.inl f0, .inl o.2.1, .inl f2, .inl o.2.2.1, .inl f4] [g0, g1, o.2.2.2.1, g3, g4, g5, o.2.2.2.2.1, o.2.2.2.2.2.1, o.2.2.2.2.2.2.1, o.2.2.2.2.2.2.2.1, o.2.2.2.2.2.2.2.2.1, g11, g12, o.2.2.2.2.2.2.2.2.2] := zv_meth (K := (z_KF13, z_KC13, z_KL13, z_KT13, [], [], [], none)) (FT := z_FT) (MT := z_MT) (n := 4) zxp310 (z_ks13 _ (fun _ h => List.mem_cons_of_mem _ h) _ _ _ _ (fun j r h _ => by cases h)) (fun _ _ => zs_KX_p) zyw_M_both (fun va F G h => by obtain ⟨rfl, _⟩ := h; rfl) (fun va F G h => by obtain ⟨rfl, _⟩ := h; rfl) rfl fun good va F G hB hret hvret hP => by
  obtain ⟨rfl, rfl, rfl⟩ := hP
  unfold zf_M_both at h
  refine zv_ild hB zd310_0 rfl rfl ?_
  refine zv_con hB zd310_1 rfl ?_
  refine zv_con hB zd310_2 rfl ?_
  obtain ⟨r1, hr1, h⟩ := zi_bind h
  refine zv_cs hB (zv_emq (va2 := [.inl x1, .inl 0, .inl 287]) (F := [.inl f0, .inl f1, .inl f2, .inl f3, .inl f4]) (F' := [.inl f0, .inl f1, .inl f2, .inl f3, .inl f4]) (G := [g0, g1, g2, g3, g4, g5, g6, g7, g8, g9, g10, g11, g12, g13]) (G' := [g0, g1, g2, g3, g4, g5, g6, g7, g8, g9, g10, g11, g12, g13]) (ρ := []) (φ := []) (ψ := []) [none, none, none, none, none] [none, none, none, none, none, none, none, none, none, none, none, none, none, none] zyw_M_in zyw_M_both zye_M_both (by decide +kernel) (zt_M_in hr1) trivial trivial rfl rfl rfl rfl rfl rfl rfl) zd310_5 zxt200 rfl (by decide) (by decide) rfl ?_
  refine zv_zeq hB zd310_8 rfl (fun hc2 => ?_) (fun hc2 => ?_)
  · rw [if_pos hc2] at h
    refine zv_con hB zd310_42 rfl ?_
    have hw := Option.some.inj h
    subst hw
    exact hret _ _ _ _ _ zd310_43 (by trivial) ⟨rfl, rfl, rfl⟩
  · rw [if_neg hc2] at h
    refine zv_ild hB zd310_11 rfl rfl ?_
    refine zv_con hB zd310_12 rfl ?_
    refine zv_con hB zd310_13 rfl ?_
    obtain ⟨r3, hr3, h⟩ := zi_bind h
    refine zv_cs hB (zv_emq (va2 := [.inl x2, .inl 0, .inl 287]) (F := [.inl f0, .inl f1, .inl f2, .inl f3, .inl f4]) (F' := [.inl f0, .inl f1, .inl f2, .inl f3, .inl f4]) (G := [g0, g1, g2, g3, g4, g5, g6, g7, g8, g9, g10, g11, g12, g13]) (G' := [g0, g1, g2, g3, g4, g5, g6, g7, g8, g9, g10, g11, g12, g13]) (ρ := []) (φ := []) (ψ := []) [none, none, none, none, none] [none, none, none, none, none, none, none, none, none, none, none, none, none, none] zyw_M_in zyw_M_both zye_M_both (by decide +kernel) (zt_M_in hr3) trivial trivial rfl rfl rfl rfl rfl rfl rfl) zd310_16 zxt200 rfl (by decide) (by decide) rfl ?_
    refine zv_zeq hB zd310_19 rfl (fun hc4 => ?_) (fun hc4 => ?_)
    · rw [if_pos hc4] at h
      refine zv_con hB zd310_42 rfl ?_
      have hw := Option.some.inj h
      subst hw
      exact hret _ _ _ _ _ zd310_43 (by trivial) ⟨rfl, rfl, rfl⟩
    · rw [if_neg hc4] at h
      refine zv_ild hB zd310_22 rfl rfl ?_
      refine zv_con hB zd310_23 rfl ?_
      refine zv_con hB zd310_24 rfl ?_
      obtain ⟨r5, hr5, h⟩ := zi_bind h
      refine zv_cs hB (zv_emq (va2 := [.inl x3, .inl 0, .inl 2]) (F := [.inl f0, .inl f1, .inl f2, .inl f3, .inl f4]) (F' := [.inl f0, .inl f1, .inl f2, .inl f3, .inl f4]) (G := [g0, g1, g2, g3, g4, g5, g6, g7, g8, g9, g10, g11, g12, g13]) (G' := [g0, g1, g2, g3, g4, g5, g6, g7, g8, g9, g10, g11, g12, g13]) (ρ := []) (φ := []) (ψ := []) [none, none, none, none, none] [none, none, none, none, none, none, none, none, none, none, none, none, none, none] zyw_M_in zyw_M_both zye_M_both (by decide +kernel) (zt_M_in hr5) trivial trivial rfl rfl rfl rfl rfl rfl rfl) zd310_25 zxt200 rfl (by decide) (by decide) rfl ?_
      refine zv_zeq hB zd310_28 rfl (fun hc6 => ?_) (fun hc6 => ?_)
      · rw [if_pos hc6] at h
        refine zv_con hB zd310_42 rfl ?_
        have hw := Option.some.inj h
        subst hw
        exact hret _ _ _ _ _ zd310_43 (by trivial) ⟨rfl, rfl, rfl⟩
      · rw [if_neg hc6] at h
        refine zv_ild hB zd310_31 rfl rfl ?_
        refine zv_zne hB zd310_32 rfl (fun hc7 => ?_) (fun hc7 => ?_)
        · rw [if_neg hc7] at h
          refine zv_ald hB zd310_44 rfl rfl rfl ?_
          refine zv_ild hB zd310_45 rfl rfl ?_
          refine zv_ild hB zd310_46 rfl rfl ?_
          obtain ⟨r8, hr8, h⟩ := zi_bind h
          refine zv_cv hB (zv_emq (va2 := [.inr 0, .inl x1, .inl x2]) (F := [.inl f0, .inl f1, .inl f2, .inl f3, .inl f4]) (F' := [.inl f0, .inl r8.1, .inl f2, .inl f3, .inl f4]) (G := [g0, g1, g2, g3, g4, g5, g6, g7, g8, g9, g10, g11, g12, g13]) (G' := [g0, g1, r8.2.1, g3, g4, g5, r8.2.2.1, r8.2.2.2.1, r8.2.2.2.2, g9, g10, g11, g12, g13]) (ρ := [0, 1, 2, 3, 4, 5, 6, 7, 8, 9]) (φ := [0, 1]) (ψ := [0, 1, 2, 3, 4, 5, 6, 7, 8]) [some 0, some 1, none, none, none] [some 0, some 1, some 2, some 3, some 4, some 5, some 6, some 7, some 8, none, none, none, none, none] zyw_M_looksBoth zyw_M_both zye_M_both (by decide +kernel) (zt_M_looksBoth hr8) ⟨⟨_, rfl, fun _ => rfl⟩, ⟨_, rfl, fun _ => rfl⟩, trivial⟩ ⟨rfl, rfl, rfl, rfl, rfl, rfl, rfl, rfl, rfl, trivial⟩ rfl rfl rfl rfl rfl rfl rfl) zd310_47 zxt311 rfl (by decide) (by decide) rfl ?_
          refine zv_ild hB zd310_50 rfl rfl ?_
          refine zv_zne hB zd310_51 rfl (fun _ => ?_) (fun hc => absurd hc (by omega))
          refine zv_ild hB zd310_64 rfl rfl ?_
          refine zv_con hB zd310_65 rfl ?_
          refine zv_cne hB zd310_66 rfl (fun hc10 => ?_) (fun hc10 => ?_)
          · rw [if_neg hc10] at h
            refine zv_ald hB zd310_76 rfl rfl rfl ?_
            obtain ⟨r11, hr11, h⟩ := zi_bind h
            refine zv_cv hB (zv_emq (va2 := [.inr 0]) (F := [.inl f0, .inl r8.1, .inl f2, .inl f3, .inl f4]) (F' := [.inl f0, .inl r8.1, .inl f2, .inl f3, .inl f4]) (G := [g0, g1, r8.2.1, g3, g4, g5, r8.2.2.1, r8.2.2.2.1, r8.2.2.2.2, g9, g10, g11, g12, g13]) (G' := [g0, g1, r8.2.1, g3, g4, g5, r8.2.2.1, r8.2.2.2.1, r8.2.2.2.2, g9, g10, g11, g12, g13]) (ρ := [0, 8]) (φ := []) (ψ := [7]) [none, none, none, none, none] [none, none, none, none, none, none, none, some 0, none, none, none, none, none, none] zyw_M_lineMany zyw_M_both zye_M_both (by decide +kernel) (zt_M_lineMany hr11) trivial ⟨rfl, trivial⟩ rfl rfl rfl rfl rfl rfl rfl) zd310_77 zxt260 rfl (by decide) (by decide) rfl ?_
            have hw := Option.some.inj h
            subst hw
            exact hret _ _ _ _ _ zd310_80 (by trivial) ⟨rfl, rfl, rfl⟩
          · rw [if_pos hc10] at h
            refine zv_ald hB zd310_69 rfl rfl rfl ?_
            refine zv_getf hB zd310_70 rfl rfl (fun _ _ => ?_)
            refine zv_goto hB zd310_73 rfl ?_
            have hw := Option.some.inj h
            subst hw
            exact hret _ _ _ _ _ zd310_80 (by trivial) ⟨rfl, rfl, rfl⟩
        · rw [if_pos hc7] at h
          refine zv_ald hB zd310_35 rfl rfl rfl ?_
          refine zv_getf hB zd310_36 rfl rfl (fun _ _ => ?_)
          refine zv_zne hB zd310_39 rfl (fun hc12 => ?_) (fun hc12 => ?_)
          · rw [if_neg hc12] at h
            refine zv_ald hB zd310_44 rfl rfl rfl ?_
            refine zv_ild hB zd310_45 rfl rfl ?_
            refine zv_ild hB zd310_46 rfl rfl ?_
            obtain ⟨r13, hr13, h⟩ := zi_bind h
            refine zv_cv hB (zv_emq (va2 := [.inr 0, .inl x1, .inl x2]) (F := [.inl f0, .inl f1, .inl f2, .inl f3, .inl f4]) (F' := [.inl f0, .inl r13.1, .inl f2, .inl f3, .inl f4]) (G := [g0, g1, g2, g3, g4, g5, g6, g7, g8, g9, g10, g11, g12, g13]) (G' := [g0, g1, r13.2.1, g3, g4, g5, r13.2.2.1, r13.2.2.2.1, r13.2.2.2.2, g9, g10, g11, g12, g13]) (ρ := [0, 1, 2, 3, 4, 5, 6, 7, 8, 9]) (φ := [0, 1]) (ψ := [0, 1, 2, 3, 4, 5, 6, 7, 8]) [some 0, some 1, none, none, none] [some 0, some 1, some 2, some 3, some 4, some 5, some 6, some 7, some 8, none, none, none, none, none] zyw_M_looksBoth zyw_M_both zye_M_both (by decide +kernel) (zt_M_looksBoth hr13) ⟨⟨_, rfl, fun _ => rfl⟩, ⟨_, rfl, fun _ => rfl⟩, trivial⟩ ⟨rfl, rfl, rfl, rfl, rfl, rfl, rfl, rfl, rfl, trivial⟩ rfl rfl rfl rfl rfl rfl rfl) zd310_47 zxt311 rfl (by decide) (by decide) rfl ?_
            refine zv_ild hB zd310_50 rfl rfl ?_
            refine zv_zne hB zd310_51 rfl (fun hc => absurd hc (by omega)) (fun _ => ?_)
            refine zv_ald hB zd310_54 rfl rfl rfl ?_
            refine zv_con hB zd310_55 rfl ?_
            obtain ⟨r15, hr15, h⟩ := zi_bind h
            refine zv_cv hB (zv_emq (va2 := [.inr 0, .inl 10000]) (F := [.inl f0, .inl r13.1, .inl f2, .inl f3, .inl f4]) (F' := [.inl f0, .inl r13.1, .inl f2, .inl r15.2.1, .inl f4]) (G := [g0, g1, r13.2.1, g3, g4, g5, r13.2.2.1, r13.2.2.2.1, r13.2.2.2.2, g9, g10, g11, g12, g13]) (G' := [g0, g1, r13.2.1, g3, g4, g5, r13.2.2.1, r13.2.2.2.1, r13.2.2.2.2, r15.2.2.1, r15.2.2.2.1, g11, g12, r15.2.2.2.2]) (ρ := [0, 10, 11, 12, 13, 8, 14]) (φ := [3, 4, 1, 2]) (ψ := [9, 10, 11, 12, 7, 13]) [none, some 2, some 3, some 0, some 1] [none, none, none, none, none, none, none, some 4, none, some 0, some 1, some 2, some 3, some 5] zyw_M_ways zyw_M_both zye_M_both (by decide +kernel) (zt_M_ways hr15) ⟨⟨_, rfl, fun _ => rfl⟩, ⟨_, rfl, fun _ => rfl⟩, ⟨_, rfl, fun _ => rfl⟩, ⟨_, rfl, fun _ => rfl⟩, trivial⟩ ⟨rfl, rfl, rfl, rfl, rfl, rfl, trivial⟩ rfl rfl rfl rfl rfl rfl rfl) zd310_58 zxt268 rfl (by decide) (by decide) rfl ?_
            refine zv_goto hB zd310_61 rfl ?_
            have hw := Option.some.inj h
            subst hw
            exact hret _ _ _ _ _ zd310_80 (by trivial) ⟨rfl, rfl, rfl⟩
          · rw [if_pos hc12] at h
            refine zv_con hB zd310_42 rfl ?_
            have hw := Option.some.inj h
            subst hw
            exact hret _ _ _ _ _ zd310_43 (by trivial) ⟨rfl, rfl, rfl⟩
/-! M_leastClouds (III)I -/
-- names: 0 StarTalesModel('arg', 0), 1 (0, 422)(0, 12, 0), 2 (0, 14)(0, 12, 21), 3 (0, 13)(0, 12, 26), 4 (0, 14)(0, 12, 23), 5 (0, 14)(0, 12, 24), 6 (0, 220)(0, 12, 20), 7 (0, 220)(0, 12, 25), 8 (0, 24)(0, 12, 28), 9 (0, 8)(0, 12, 38), 10 (0, 8)(0, 12, 39), 11 (0, 12)(0, 12, 34), 12 (0, 12)(0, 12, 35), 13 (0, 8)(0, 12, 40)
-- fields: f0 = 0.clauses_, f1 = 0.seen0_, f2 = 0.nameMany_, f3 = 0.namesIn_, f4 = 0.taleLines_; arrays: g0 = 1, g1 = 2, g2 = 3, g3 = 4, g4 = 5, g5 = 6, g6 = 7, g7 = 8, g8 = 9, g9 = 10, g10 = 11, g11 = 12, g12 = 13; out: [('ret', None), ('f', 1), ('f', 2), ('g', 0), ('g', 2), ('g', 6), ('g', 7), ('g', 8), ('g', 9), ('g', 12)]
abbrev zy_M_leastClouds : zNL := (14, [(0, 12)], [(0, 12, 13, 0), (0, 12, 27, 1), (0, 12, 41, 2), (0, 12, 33, 3), (0, 12, 31, 4)], [(0, 12, 0, 1), (0, 12, 21, 2), (0, 12, 26, 3), (0, 12, 23, 4), (0, 12, 24, 5), (0, 12, 20, 6), (0, 12, 25, 7), (0, 12, 28, 8), (0, 12, 38, 9), (0, 12, 39, 10), (0, 12, 34, 11), (0, 12, 35, 12), (0, 12, 40, 13)], [(1, 0, 422, 0), (2, 0, 14, 1), (3, 0, 13, 2), (4, 0, 14, 3), (5, 0, 14, 4), (6, 0, 220, 5), (7, 0, 220, 6), (8, 0, 24, 7), (9, 0, 8, 8), (10, 0, 8, 9), (11, 0, 12, 10), (12, 0, 12, 11), (13, 0, 8, 12)])
theorem zyw_M_leastClouds : zv_wf zy_M_leastClouds = true := by decide +kernel
theorem zye_M_leastClouds : zv_ek2 zy_M_leastClouds = true := by decide +kernel
def zf_M_leastClouds_l0_b (x1 : Int) (x3 : Int) (x4 : Int) (f0 : Int) (f3 : Int) (f4 : Int) (g1 : (Int → Int)) (g3 : (Int → Int)) (g4 : (Int → Int)) (g5 : (Int → Int)) (g10 : (Int → Int)) (g11 : (Int → Int)) (rec : Int → Int → Int → (Int → Int) → (Int → Int) → (Int → Int) → (Int → Int) → (Int → Int) → (Int → Int) → (Int → Int) → Option (((Int × Int × (Int → Int) × (Int → Int) × (Int → Int) × (Int → Int) × (Int → Int) × (Int → Int) × (Int → Int)) ⊕ (Int × Int × Int × (Int → Int) × (Int → Int) × (Int → Int) × (Int → Int) × (Int → Int) × (Int → Int) × (Int → Int))))) (x5 : Int) (f1 : Int) (f2 : Int) (g0 : (Int → Int)) (g2 : (Int → Int)) (g6 : (Int → Int)) (g7 : (Int → Int)) (g8 : (Int → Int)) (g9 : (Int → Int)) (g12 : (Int → Int)) : Option (((Int × Int × (Int → Int) × (Int → Int) × (Int → Int) × (Int → Int) × (Int → Int) × (Int → Int) × (Int → Int)) ⊕ (Int × Int × Int × (Int → Int) × (Int → Int) × (Int → Int) × (Int → Int) × (Int → Int) × (Int → Int) × (Int → Int)))) := if x5 < 16777216 then (if (zi_and x5 (zi_xor x3 (-1))) = 0 then ((zf_M_canBeTold x1 f0 f1 f2 f3 f4 (zv_up g0 130 (zi_or x4 x5)) g1 g2 g3 g4 g5 g6 g7 g8 g9 g10 g11 g12).bind fun r5 => (if r5.1 = 0 then (some (.inr (x5, r5.2.1, r5.2.2.1, (zv_up (zv_up g0 130 (zi_or x4 x5)) 130 x4), r5.2.2.2.1, r5.2.2.2.2.1, r5.2.2.2.2.2.1, r5.2.2.2.2.2.2.1, r5.2.2.2.2.2.2.2.1, r5.2.2.2.2.2.2.2.2))) else (cond (zi_ne (zi_and x5 (zi_w (-x5)))) (zi_let (zi_or (zi_w (x5 + (zi_and x5 (zi_w (-x5))))) (zi_shr (zi_div (zi_xor x5 (zi_w (x5 + (zi_and x5 (zi_w (-x5)))))) (zi_and x5 (zi_w (-x5)))) 2)) fun v8 => (rec v8 r5.2.1 r5.2.2.1 (zv_up (zv_up g0 130 (zi_or x4 x5)) 130 x4) r5.2.2.2.1 r5.2.2.2.2.1 r5.2.2.2.2.2.1 r5.2.2.2.2.2.2.1 r5.2.2.2.2.2.2.2.1 r5.2.2.2.2.2.2.2.2)) none))) else (cond (zi_ne (zi_and x5 (zi_w (-x5)))) (zi_let (zi_or (zi_w (x5 + (zi_and x5 (zi_w (-x5))))) (zi_shr (zi_div (zi_xor x5 (zi_w (x5 + (zi_and x5 (zi_w (-x5)))))) (zi_and x5 (zi_w (-x5)))) 2)) fun v4 => (rec v4 f1 f2 g0 g2 g6 g7 g8 g9 g12)) none)) else (some (.inl (f1, f2, g0, g2, g6, g7, g8, g9, g12)))
def zf_M_leastClouds_l0 (x1 : Int) (x3 : Int) (x4 : Int) (f0 : Int) (f3 : Int) (f4 : Int) (g1 : (Int → Int)) (g3 : (Int → Int)) (g4 : (Int → Int)) (g5 : (Int → Int)) (g10 : (Int → Int)) (g11 : (Int → Int)) : Nat → Int → Int → Int → (Int → Int) → (Int → Int) → (Int → Int) → (Int → Int) → (Int → Int) → (Int → Int) → (Int → Int) → Option (((Int × Int × (Int → Int) × (Int → Int) × (Int → Int) × (Int → Int) × (Int → Int) × (Int → Int) × (Int → Int)) ⊕ (Int × Int × Int × (Int → Int) × (Int → Int) × (Int → Int) × (Int → Int) × (Int → Int) × (Int → Int) × (Int → Int))))
  | 0, _, _, _, _, _, _, _, _, _, _ => none
  | n + 1, x5, f1, f2, g0, g2, g6, g7, g8, g9, g12 => zf_M_leastClouds_l0_b x1 x3 x4 f0 f3 f4 g1 g3 g4 g5 g10 g11 (zf_M_leastClouds_l0 x1 x3 x4 f0 f3 f4 g1 g3 g4 g5 g10 g11 n) x5 f1 f2 g0 g2 g6 g7 g8 g9 g12
def zf_M_leastClouds (x1 : Int) (x2 : Int) (x3 : Int) (f0 : Int) (f1 : Int) (f2 : Int) (f3 : Int) (f4 : Int) (g0 : (Int → Int)) (g1 : (Int → Int)) (g2 : (Int → Int)) (g3 : (Int → Int)) (g4 : (Int → Int)) (g5 : (Int → Int)) (g6 : (Int → Int)) (g7 : (Int → Int)) (g8 : (Int → Int)) (g9 : (Int → Int)) (g10 : (Int → Int)) (g11 : (Int → Int)) (g12 : (Int → Int)) : Option (Int × Int × Int × (Int → Int) × (Int → Int) × (Int → Int) × (Int → Int) × (Int → Int) × (Int → Int) × (Int → Int)) := (zf_M_leastClouds_l0 x1 x3 (g0 130) f0 f3 f4 g1 g3 g4 g5 g10 g11 zi_fu (zi_w ((zi_shl 1 x2) - 1)) f1 f2 g0 g2 g6 g7 g8 g9 g12).bind fun q9 => Sum.elim (fun e10 => (some ((-1), e10.1, e10.2.1, e10.2.2.1, e10.2.2.2.1, e10.2.2.2.2.1, e10.2.2.2.2.2.1, e10.2.2.2.2.2.2.1, e10.2.2.2.2.2.2.2.1, e10.2.2.2.2.2.2.2.2))) (fun w11 => some w11) q9
theorem zd313_0 : decode zxm313.2.1 0 = .ok (.aload_n 0, 1) := by decide +kernel
theorem zd313_1 : decode zxm313.2.1 1 = .ok (.getfield 7, 3) := by decide +kernel
theorem zd313_4 : decode zxm313.2.1 4 = .ok (.sipush 130, 3) := by decide +kernel
theorem zd313_7 : decode zxm313.2.1 7 = .ok (.iaload, 1) := by decide +kernel
theorem zd313_8 : decode zxm313.2.1 8 = .ok (.istore 4, 2) := by decide +kernel
theorem zd313_10 : decode zxm313.2.1 10 = .ok (.iconst 1, 1) := by decide +kernel
theorem zd313_11 : decode zxm313.2.1 11 = .ok (.iload_n 2, 1) := by decide +kernel
theorem zd313_12 : decode zxm313.2.1 12 = .ok (.ishl, 1) := by decide +kernel
theorem zd313_13 : decode zxm313.2.1 13 = .ok (.iconst 1, 1) := by decide +kernel
theorem zd313_14 : decode zxm313.2.1 14 = .ok (.isub, 1) := by decide +kernel
theorem zd313_15 : decode zxm313.2.1 15 = .ok (.istore 5, 2) := by decide +kernel
theorem zd313_17 : decode zxm313.2.1 17 = .ok (.iload 5, 2) := by decide +kernel
theorem zd313_19 : decode zxm313.2.1 19 = .ok (.ldc_w 398, 3) := by decide +kernel
theorem zd313_22 : decode zxm313.2.1 22 = .ok (.if_icmp .ge 83, 3) := by decide +kernel
theorem zd313_25 : decode zxm313.2.1 25 = .ok (.iload 5, 2) := by decide +kernel
theorem zd313_27 : decode zxm313.2.1 27 = .ok (.iload_n 3, 1) := by decide +kernel
theorem zd313_28 : decode zxm313.2.1 28 = .ok (.iconst (-1), 1) := by decide +kernel
theorem zd313_29 : decode zxm313.2.1 29 = .ok (.ixor, 1) := by decide +kernel
theorem zd313_30 : decode zxm313.2.1 30 = .ok (.iand, 1) := by decide +kernel
theorem zd313_31 : decode zxm313.2.1 31 = .ok (.ifCond .ne 41, 3) := by decide +kernel
theorem zd313_34 : decode zxm313.2.1 34 = .ok (.aload_n 0, 1) := by decide +kernel
theorem zd313_35 : decode zxm313.2.1 35 = .ok (.getfield 7, 3) := by decide +kernel
theorem zd313_38 : decode zxm313.2.1 38 = .ok (.sipush 130, 3) := by decide +kernel
theorem zd313_41 : decode zxm313.2.1 41 = .ok (.iload 4, 2) := by decide +kernel
theorem zd313_43 : decode zxm313.2.1 43 = .ok (.iload 5, 2) := by decide +kernel
theorem zd313_45 : decode zxm313.2.1 45 = .ok (.ior, 1) := by decide +kernel
theorem zd313_46 : decode zxm313.2.1 46 = .ok (.iastore, 1) := by decide +kernel
theorem zd313_47 : decode zxm313.2.1 47 = .ok (.aload_n 0, 1) := by decide +kernel
theorem zd313_48 : decode zxm313.2.1 48 = .ok (.iload_n 1, 1) := by decide +kernel
theorem zd313_49 : decode zxm313.2.1 49 = .ok (.invokevirtual 369, 3) := by decide +kernel
theorem zd313_52 : decode zxm313.2.1 52 = .ok (.istore 6, 2) := by decide +kernel
theorem zd313_54 : decode zxm313.2.1 54 = .ok (.aload_n 0, 1) := by decide +kernel
theorem zd313_55 : decode zxm313.2.1 55 = .ok (.getfield 7, 3) := by decide +kernel
theorem zd313_58 : decode zxm313.2.1 58 = .ok (.sipush 130, 3) := by decide +kernel
theorem zd313_61 : decode zxm313.2.1 61 = .ok (.iload 4, 2) := by decide +kernel
theorem zd313_63 : decode zxm313.2.1 63 = .ok (.iastore, 1) := by decide +kernel
theorem zd313_64 : decode zxm313.2.1 64 = .ok (.iload 6, 2) := by decide +kernel
theorem zd313_66 : decode zxm313.2.1 66 = .ok (.ifCond .ne 6, 3) := by decide +kernel
theorem zd313_69 : decode zxm313.2.1 69 = .ok (.iload 5, 2) := by decide +kernel
theorem zd313_71 : decode zxm313.2.1 71 = .ok (.ireturn, 1) := by decide +kernel
theorem zd313_72 : decode zxm313.2.1 72 = .ok (.iload 5, 2) := by decide +kernel
theorem zd313_74 : decode zxm313.2.1 74 = .ok (.iload 5, 2) := by decide +kernel
theorem zd313_76 : decode zxm313.2.1 76 = .ok (.ineg, 1) := by decide +kernel
theorem zd313_77 : decode zxm313.2.1 77 = .ok (.iand, 1) := by decide +kernel
theorem zd313_78 : decode zxm313.2.1 78 = .ok (.istore 6, 2) := by decide +kernel
theorem zd313_80 : decode zxm313.2.1 80 = .ok (.iload 5, 2) := by decide +kernel
theorem zd313_82 : decode zxm313.2.1 82 = .ok (.iload 6, 2) := by decide +kernel
theorem zd313_84 : decode zxm313.2.1 84 = .ok (.iadd, 1) := by decide +kernel
theorem zd313_85 : decode zxm313.2.1 85 = .ok (.istore 7, 2) := by decide +kernel
theorem zd313_87 : decode zxm313.2.1 87 = .ok (.iload 7, 2) := by decide +kernel
theorem zd313_89 : decode zxm313.2.1 89 = .ok (.iload 5, 2) := by decide +kernel
theorem zd313_91 : decode zxm313.2.1 91 = .ok (.iload 7, 2) := by decide +kernel
theorem zd313_93 : decode zxm313.2.1 93 = .ok (.ixor, 1) := by decide +kernel
theorem zd313_94 : decode zxm313.2.1 94 = .ok (.iload 6, 2) := by decide +kernel
theorem zd313_96 : decode zxm313.2.1 96 = .ok (.idiv, 1) := by decide +kernel
theorem zd313_97 : decode zxm313.2.1 97 = .ok (.iconst 2, 1) := by decide +kernel
theorem zd313_98 : decode zxm313.2.1 98 = .ok (.ishr, 1) := by decide +kernel
theorem zd313_99 : decode zxm313.2.1 99 = .ok (.ior, 1) := by decide +kernel
theorem zd313_100 : decode zxm313.2.1 100 = .ok (.istore 5, 2) := by decide +kernel
theorem zd313_102 : decode zxm313.2.1 102 = .ok (.goto (-85), 3) := by decide +kernel
theorem zd313_105 : decode zxm313.2.1 105 = .ok (.iconst (-1), 1) := by decide +kernel
theorem zd313_106 : decode zxm313.2.1 106 = .ok (.ireturn, 1) := by decide +kernel
theorem zt_M_leastClouds {x1 : Int} {x2 : Int} {x3 : Int} {f0 : Int} {f1 : Int} {f2 : Int} {f3 : Int} {f4 : Int} {g0 : (Int → Int)} {g1 : (Int → Int)} {g2 : (Int → Int)} {g3 : (Int → Int)} {g4 : (Int → Int)} {g5 : (Int → Int)} {g6 : (Int → Int)} {g7 : (Int → Int)} {g8 : (Int → Int)} {g9 : (Int → Int)} {g10 : (Int → Int)} {g11 : (Int → Int)} {g12 : (Int → Int)} {o : Int × Int × Int × (Int → Int) × (Int → Int) × (Int → Int) × (Int → Int) × (Int → Int) × (Int → Int) × (Int → Int)} (h : zf_M_leastClouds x1 x2 x3 f0 f1 f2 f3 f4 g0 g1 g2 g3 g4 g5 g6 g7 g8 g9 g10 g11 g12 = some o) : zv_Fn z_TB z_cl z_KX zy_M_leastClouds zxm313 (7, 420) [.inr 0, .inl x1, .inl x2, .inl x3] [.inl f0, .inl f1, .inl f2, .inl f3, .inl f4] [g0, g1, g2, g3, g4, g5, g6, g7, g8, g9, g10, g11, g12] (some o.1) [.inl f0, .inl o.2.1, .inl o.2.2.1, .inl f3, .inl f4] [o.2.2.2.1, g1, o.2.2.2.2.1, g3, g4, g5, o.2.2.2.2.2.1, o.2.2.2.2.2.2.1, o.2.2.2.2.2.2.2.1, o.2.2.2.2.2.2.2.2.1, g10, g11, o.2.2.2.2.2.2.2.2.2] := zv_meth (K := (z_KF13, z_KC13, z_KL13, z_KT13, [], [], [], none)) (FT := z_FT) (MT := z_MT) (n := 4) zxp313 (z_ks13 _ (fun _ h => List.mem_cons_of_mem _ h) _ _ _ _ (fun j r h _ => by cases h)) (fun _ _ => zs_KX_p) zyw_M_leastClouds (fun va F G h => by obtain ⟨rfl, _⟩ := h; rfl) (fun va F G h => by obtain ⟨rfl, _⟩ := h; rfl) rfl fun good va F G hB hret hvret hP => by
  obtain ⟨rfl, rfl, rfl⟩ := hP
  have l0 : ∀ (n : Nat) (x1 : Int) (x3 : Int) (x4 : Int) (x5 : Int) (f1 : Int) (f2 : Int) (g0 : (Int → Int)) (g2 : (Int → Int)) (g6 : (Int → Int)) (g7 : (Int → Int)) (g8 : (Int → Int)) (g9 : (Int → Int)) (g12 : (Int → Int)) (q : ((Int × Int × (Int → Int) × (Int → Int) × (Int → Int) × (Int → Int) × (Int → Int) × (Int → Int) × (Int → Int)) ⊕ (Int × Int × Int × (Int → Int) × (Int → Int) × (Int → Int) × (Int → Int) × (Int → Int) × (Int → Int) × (Int → Int)))), zf_M_leastClouds_l0 x1 x3 x4 f0 f3 f4 g1 g3 g4 g5 g10 g11 n x5 f1 f2 g0 g2 g6 g7 g8 g9 g12 = some q → (Sum.elim (fun e : Int × Int × (Int → Int) × (Int → Int) × (Int → Int) × (Int → Int) × (Int → Int) × (Int → Int) × (Int → Int) => good 105 [.inr 1000, .inr 1000, .inr 1000, .inr 1000, .inr 1000, .inr 1000, .inr 1000, .inr 1000] [] [.inl f0, .inl e.1, .inl e.2.1, .inl f3, .inl f4] [e.2.2.1, g1, e.2.2.2.1, g3, g4, g5, e.2.2.2.2.1, e.2.2.2.2.2.1, e.2.2.2.2.2.2.1, e.2.2.2.2.2.2.2.1, g10, g11, e.2.2.2.2.2.2.2.2]) (fun w : Int × Int × Int × (Int → Int) × (Int → Int) × (Int → Int) × (Int → Int) × (Int → Int) × (Int → Int) × (Int → Int) => w = o) q) → good 17 [.inr 0, .inl x1, .inr 1000, .inl x3, .inl x4, .inl x5, .inr 1000, .inr 1000] [] [.inl f0, .inl f1, .inl f2, .inl f3, .inl f4] [g0, g1, g2, g3, g4, g5, g6, g7, g8, g9, g10, g11, g12] := by
    intro n
    induction n with
    | zero => intro x1 x3 x4 x5 f1 f2 g0 g2 g6 g7 g8 g9 g12 q h; exact absurd (show none = some q from h) (fun h => by cases h)
    | succ n ih =>
      intro x1 x3 x4 x5 f1 f2 g0 g2 g6 g7 g8 g9 g12 q h hK
      replace h : zf_M_leastClouds_l0_b x1 x3 x4 f0 f3 f4 g1 g3 g4 g5 g10 g11 (zf_M_leastClouds_l0 x1 x3 x4 f0 f3 f4 g1 g3 g4 g5 g10 g11 n) x5 f1 f2 g0 g2 g6 g7 g8 g9 g12 = some q := h
      unfold zf_M_leastClouds_l0_b at h
      refine zv_ild hB zd313_17 rfl rfl ?_
      refine zv_con (n := 16777216) hB zd313_19 (by decide +kernel) ?_
      refine zv_cge hB zd313_22 rfl (fun hc1 => ?_) (fun hc1 => ?_)
      · rw [if_neg (Int.not_lt.mpr hc1)] at h
        have hq := Option.some.inj h
        subst hq
        refine zv_wk hB (L' := [.inr 1000, .inr 1000, .inr 1000, .inr 1000, .inr 1000, .inr 1000, .inr 1000, .inr 1000]) (F' := [.inl f0, .inl f1, .inl f2, .inl f3, .inl f4]) ⟨fun (h : zv_is (.inr 1000)) => (Nat.lt_irrefl 1000 h).elim, fun (h : zv_is (.inr 1000)) => (Nat.lt_irrefl 1000 h).elim, fun (h : zv_is (.inr 1000)) => (Nat.lt_irrefl 1000 h).elim, fun (h : zv_is (.inr 1000)) => (Nat.lt_irrefl 1000 h).elim, fun (h : zv_is (.inr 1000)) => (Nat.lt_irrefl 1000 h).elim, fun (h : zv_is (.inr 1000)) => (Nat.lt_irrefl 1000 h).elim, fun (h : zv_is (.inr 1000)) => (Nat.lt_irrefl 1000 h).elim, fun (h : zv_is (.inr 1000)) => (Nat.lt_irrefl 1000 h).elim, trivial⟩ ⟨fun _ => rfl, fun _ => rfl, fun _ => rfl, fun _ => rfl, fun _ => rfl, trivial⟩ ?_
        exact hK
      · rw [if_pos hc1] at h
        refine zv_ild hB zd313_25 rfl rfl ?_
        refine zv_ild hB zd313_27 rfl rfl ?_
        refine zv_con hB zd313_28 rfl ?_
        refine zv_xorw hB zd313_29 ?_
        refine zv_andw hB zd313_30 ?_
        refine zv_zne hB zd313_31 rfl (fun hc2 => ?_) (fun hc2 => ?_)
        · rw [if_neg hc2] at h
          refine zv_ild hB zd313_72 rfl rfl ?_
          refine zv_ild hB zd313_74 rfl rfl ?_
          refine zv_negw hB zd313_76 ?_
          refine zv_andw hB zd313_77 ?_
          refine zv_ist hB zd313_78 rfl rfl rfl ?_
          refine zv_ild hB zd313_80 rfl rfl ?_
          refine zv_ild hB zd313_82 rfl rfl ?_
          refine zv_addw hB zd313_84 ?_
          refine zv_ist hB zd313_85 rfl rfl rfl ?_
          refine zv_ild hB zd313_87 rfl rfl ?_
          refine zv_ild hB zd313_89 rfl rfl ?_
          refine zv_ild hB zd313_91 rfl rfl ?_
          refine zv_xorw hB zd313_93 ?_
          refine zv_ild hB zd313_94 rfl rfl ?_
          obtain ⟨c3, h⟩ := zi_if h
          refine zv_divw hB zd313_96 (zi_ne_ok c3) ?_
          refine zv_con hB zd313_97 rfl ?_
          refine zv_shrw hB zd313_98 ?_
          refine zv_orw hB zd313_99 ?_
          refine zv_ist hB zd313_100 rfl rfl rfl ?_
          obtain ⟨v4, hv4, h⟩ := zi_letp h
          rw [hv4]
          refine zv_goto hB zd313_102 rfl ?_
          refine zv_wk hB (L' := [.inr 0, .inl x1, .inr 1000, .inl x3, .inl x4, .inl v4, .inr 1000, .inr 1000]) (F' := [.inl f0, .inl f1, .inl f2, .inl f3, .inl f4]) ⟨fun _ => rfl, fun _ => rfl, fun (h : zv_is (.inr 1000)) => (Nat.lt_irrefl 1000 h).elim, fun _ => rfl, fun _ => rfl, fun _ => rfl, fun (h : zv_is (.inr 1000)) => (Nat.lt_irrefl 1000 h).elim, fun (h : zv_is (.inr 1000)) => (Nat.lt_irrefl 1000 h).elim, trivial⟩ ⟨fun _ => rfl, fun _ => rfl, fun _ => rfl, fun _ => rfl, fun _ => rfl, trivial⟩ ?_
          exact ih _ _ _ _ _ _ _ _ _ _ _ _ _ q h hK
        · rw [if_pos hc2] at h
          refine zv_ald hB zd313_34 rfl rfl rfl ?_
          refine zv_getr hB zd313_35 rfl ?_
          refine zv_con hB zd313_38 rfl ?_
          refine zv_ild hB zd313_41 rfl rfl ?_
          refine zv_ild hB zd313_43 rfl rfl ?_
          refine zv_orw hB zd313_45 ?_
          refine zv_iast hB zd313_46 rfl rfl (by decide) (by decide) ?_
          refine zv_ald hB zd313_47 rfl rfl rfl ?_
          refine zv_ild hB zd313_48 rfl rfl ?_
          obtain ⟨r5, hr5, h⟩ := zi_bind h
          refine zv_cv hB (zv_emq (va2 := [.inr 0, .inl x1]) (F := [.inl f0, .inl f1, .inl f2, .inl f3, .inl f4]) (F' := [.inl f0, .inl r5.2.1, .inl r5.2.2.1, .inl f3, .inl f4]) (G := [(zv_up g0 130 (zi_or x4 x5)), g1, g2, g3, g4, g5, g6, g7, g8, g9, g10, g11, g12]) (G' := [(zv_up g0 130 (zi_or x4 x5)), g1, r5.2.2.2.1, g3, g4, g5, r5.2.2.2.2.1, r5.2.2.2.2.2.1, r5.2.2.2.2.2.2.1, r5.2.2.2.2.2.2.2.1, g10, g11, r5.2.2.2.2.2.2.2.2]) (ρ := [0, 1, 2, 3, 4, 5, 6, 7, 8, 9, 10, 11, 12, 13]) (φ := [0, 1, 2, 3, 4]) (ψ := [0, 1, 2, 3, 4, 5, 6, 7, 8, 9, 10, 11, 12]) [some 0, some 1, some 2, some 3, some 4] [some 0, some 1, some 2, some 3, some 4, some 5, some 6, some 7, some 8, some 9, some 10, some 11, some 12] zyw_M_canBeTold zyw_M_leastClouds zye_M_leastClouds (by decide +kernel) (zt_M_canBeTold hr5) ⟨⟨_, rfl, fun _ => rfl⟩, ⟨_, rfl, fun _ => rfl⟩, ⟨_, rfl, fun _ => rfl⟩, ⟨_, rfl, fun _ => rfl⟩, ⟨_, rfl, fun _ => rfl⟩, trivial⟩ ⟨rfl, rfl, rfl, rfl, rfl, rfl, rfl, rfl, rfl, rfl, rfl, rfl, rfl, trivial⟩ rfl rfl rfl rfl rfl rfl rfl) zd313_49 zxt272 rfl (by decide) (by decide) rfl ?_
          refine zv_ist hB zd313_52 rfl rfl rfl ?_
          refine zv_ald hB zd313_54 rfl rfl rfl ?_
          refine zv_getr hB zd313_55 rfl ?_
          refine zv_con hB zd313_58 rfl ?_
          refine zv_ild hB zd313_61 rfl rfl ?_
          refine zv_iast hB zd313_63 rfl rfl (by decide) (by decide) ?_
          refine zv_ild hB zd313_64 rfl rfl ?_
          refine zv_zne hB zd313_66 rfl (fun hc6 => ?_) (fun hc6 => ?_)
          · rw [if_neg hc6] at h
            refine zv_ild hB zd313_72 rfl rfl ?_
            refine zv_ild hB zd313_74 rfl rfl ?_
            refine zv_negw hB zd313_76 ?_
            refine zv_andw hB zd313_77 ?_
            refine zv_ist hB zd313_78 rfl rfl rfl ?_
            refine zv_ild hB zd313_80 rfl rfl ?_
            refine zv_ild hB zd313_82 rfl rfl ?_
            refine zv_addw hB zd313_84 ?_
            refine zv_ist hB zd313_85 rfl rfl rfl ?_
            refine zv_ild hB zd313_87 rfl rfl ?_
            refine zv_ild hB zd313_89 rfl rfl ?_
            refine zv_ild hB zd313_91 rfl rfl ?_
            refine zv_xorw hB zd313_93 ?_
            refine zv_ild hB zd313_94 rfl rfl ?_
            obtain ⟨c7, h⟩ := zi_if h
            refine zv_divw hB zd313_96 (zi_ne_ok c7) ?_
            refine zv_con hB zd313_97 rfl ?_
            refine zv_shrw hB zd313_98 ?_
            refine zv_orw hB zd313_99 ?_
            refine zv_ist hB zd313_100 rfl rfl rfl ?_
            obtain ⟨v8, hv8, h⟩ := zi_letp h
            rw [hv8]
            refine zv_goto hB zd313_102 rfl ?_
            refine zv_wk hB (L' := [.inr 0, .inl x1, .inr 1000, .inl x3, .inl x4, .inl v8, .inr 1000, .inr 1000]) (F' := [.inl f0, .inl r5.2.1, .inl r5.2.2.1, .inl f3, .inl f4]) ⟨fun _ => rfl, fun _ => rfl, fun (h : zv_is (.inr 1000)) => (Nat.lt_irrefl 1000 h).elim, fun _ => rfl, fun _ => rfl, fun _ => rfl, fun (h : zv_is (.inr 1000)) => (Nat.lt_irrefl 1000 h).elim, fun (h : zv_is (.inr 1000)) => (Nat.lt_irrefl 1000 h).elim, trivial⟩ ⟨fun _ => rfl, fun _ => rfl, fun _ => rfl, fun _ => rfl, fun _ => rfl, trivial⟩ ?_
            exact ih _ _ _ _ _ _ _ _ _ _ _ _ _ q h hK
          · rw [if_pos hc6] at h
            refine zv_ild hB zd313_69 rfl rfl ?_
            have hw : (x5, r5.2.1, r5.2.2.1, (zv_up (zv_up g0 130 (zi_or x4 x5)) 130 x4), r5.2.2.2.1, r5.2.2.2.2.1, r5.2.2.2.2.2.1, r5.2.2.2.2.2.2.1, r5.2.2.2.2.2.2.2.1, r5.2.2.2.2.2.2.2.2) = o := zi_rk (Option.some.inj h) hK
            subst hw
            exact hret _ _ _ _ _ zd313_71 (by trivial) ⟨rfl, rfl, rfl⟩
  unfold zf_M_leastClouds at h
  refine zv_ald hB zd313_0 rfl rfl rfl ?_
  refine zv_getr hB zd313_1 rfl ?_
  refine zv_con hB zd313_4 rfl ?_
  refine zv_iald hB zd313_7 rfl rfl (by decide) (by decide) (fun _ _ => ?_)
  refine zv_ist hB zd313_8 rfl rfl rfl ?_
  refine zv_con hB zd313_10 rfl ?_
  refine zv_ild hB zd313_11 rfl rfl ?_
  refine zv_shlw hB zd313_12 ?_
  refine zv_con hB zd313_13 rfl ?_
  refine zv_subw hB zd313_14 ?_
  refine zv_ist hB zd313_15 rfl rfl rfl ?_
  obtain ⟨q9, hq9, h⟩ := zi_bind h
  refine zv_wk hB (L' := [.inr 0, .inl x1, .inr 1000, .inl x3, .inl (g0 130), .inl (zi_w ((zi_shl 1 x2) - 1)), .inr 1000, .inr 1000]) (F' := [.inl f0, .inl f1, .inl f2, .inl f3, .inl f4]) ⟨fun _ => rfl, fun _ => rfl, fun (h : zv_is (.inr 1000)) => (Nat.lt_irrefl 1000 h).elim, fun _ => rfl, fun _ => rfl, fun _ => rfl, fun (h : zv_is (.inr 1000)) => (Nat.lt_irrefl 1000 h).elim, fun (h : zv_is (.inr 1000)) => (Nat.lt_irrefl 1000 h).elim, trivial⟩ ⟨fun _ => rfl, fun _ => rfl, fun _ => rfl, fun _ => rfl, fun _ => rfl, trivial⟩ ?_
  refine l0 _ _ _ _ _ _ _ _ _ _ _ _ _ _ q9 hq9 ?_
  rcases q9 with e10 | w11
  · replace h := zi_sl h
    show good 105 [.inr 1000, .inr 1000, .inr 1000, .inr 1000, .inr 1000, .inr 1000, .inr 1000, .inr 1000] [] [.inl f0, .inl e10.1, .inl e10.2.1, .inl f3, .inl f4] [e10.2.2.1, g1, e10.2.2.2.1, g3, g4, g5, e10.2.2.2.2.1, e10.2.2.2.2.2.1, e10.2.2.2.2.2.2.1, e10.2.2.2.2.2.2.2.1, g10, g11, e10.2.2.2.2.2.2.2.2]
    refine zv_con hB zd313_105 rfl ?_
    have hw := Option.some.inj h
    subst hw
    exact hret _ _ _ _ _ zd313_106 (by trivial) ⟨rfl, rfl, rfl⟩
  · exact Option.some.inj h
/-! M_hidden (III)I -/
-- names: 0 StarTalesModel('arg', 0), 1 (0, 422)(0, 12, 0), 2 (0, 14)(0, 12, 21), 3 (0, 13)(0, 12, 26), 4 (0, 14)(0, 12, 23), 5 (0, 14)(0, 12, 24), 6 (0, 220)(0, 12, 20), 7 (0, 220)(0, 12, 25), 8 (0, 24)(0, 12, 28), 9 (0, 8)(0, 12, 38), 10 (0, 8)(0, 12, 39), 11 (0, 12)(0, 12, 34), 12 (0, 12)(0, 12, 35), 13 (0, 8)(0, 12, 40)
-- fields: f0 = 0.taleLines_, f1 = 0.clauses_, f2 = 0.seen0_, f3 = 0.nameMany_, f4 = 0.namesIn_; arrays: g0 = 1, g1 = 2, g2 = 3, g3 = 4, g4 = 5, g5 = 6, g6 = 7, g7 = 8, g8 = 9, g9 = 10, g10 = 11, g11 = 12, g12 = 13; out: [('ret', None), ('f', 2), ('f', 3), ('g', 0), ('g', 2), ('g', 6), ('g', 7), ('g', 8), ('g', 9), ('g', 12)]
abbrev zy_M_hidden : zNL := (14, [(0, 12)], [(0, 12, 31, 0), (0, 12, 13, 1), (0, 12, 27, 2), (0, 12, 41, 3), (0, 12, 33, 4)], [(0, 12, 0, 1), (0, 12, 21, 2), (0, 12, 26, 3), (0, 12, 23, 4), (0, 12, 24, 5), (0, 12, 20, 6), (0, 12, 25, 7), (0, 12, 28, 8), (0, 12, 38, 9), (0, 12, 39, 10), (0, 12, 34, 11), (0, 12, 35, 12), (0, 12, 40, 13)], [(1, 0, 422, 0), (2, 0, 14, 1), (3, 0, 13, 2), (4, 0, 14, 3), (5, 0, 14, 4), (6, 0, 220, 5), (7, 0, 220, 6), (8, 0, 24, 7), (9, 0, 8, 8), (10, 0, 8, 9), (11, 0, 12, 10), (12, 0, 12, 11), (13, 0, 8, 12)])
theorem zyw_M_hidden : zv_wf zy_M_hidden = true := by decide +kernel
theorem zye_M_hidden : zv_ek2 zy_M_hidden = true := by decide +kernel
def zf_M_hidden_l0_b (f2 : Int) (g0 : (Int → Int)) (rec : Int → Int → Option (Int)) (x5 : Int) (x6 : Int) : Option (Int) := if x6 < 24 then ((zf_M_has f2 x6).bind fun r9 => (if r9 = 0 then (rec x5 (zi_w (x6 + 1))) else ((zf_M_standsAt x6 g0).bind fun r11 => (rec (zi_or x5 (zi_shl 1 r11)) (zi_w (x6 + 1)))))) else (some x5)
def zf_M_hidden_l0 (f2 : Int) (g0 : (Int → Int)) : Nat → Int → Int → Option (Int)
  | 0, _, _ => none
  | n + 1, x5, x6 => zf_M_hidden_l0_b f2 g0 (zf_M_hidden_l0 f2 g0 n) x5 x6
def zf_M_hidden_l1_b (x3 : Int) (x4 : Int) (x5 : Int) (f0 : Int) (f1 : Int) (f4 : Int) (g1 : (Int → Int)) (g3 : (Int → Int)) (g4 : (Int → Int)) (g5 : (Int → Int)) (g10 : (Int → Int)) (g11 : (Int → Int)) (rec : Int → Int → Int → (Int → Int) → (Int → Int) → (Int → Int) → (Int → Int) → (Int → Int) → (Int → Int) → (Int → Int) → Option (((Int × Int × (Int → Int) × (Int → Int) × (Int → Int) × (Int → Int) × (Int → Int) × (Int → Int) × (Int → Int)) ⊕ (Int × Int × Int × (Int → Int) × (Int → Int) × (Int → Int) × (Int → Int) × (Int → Int) × (Int → Int) × (Int → Int))))) (x6 : Int) (f2 : Int) (f3 : Int) (g0 : (Int → Int)) (g2 : (Int → Int)) (g6 : (Int → Int)) (g7 : (Int → Int)) (g8 : (Int → Int)) (g9 : (Int → Int)) (g12 : (Int → Int)) : Option (((Int × Int × (Int → Int) × (Int → Int) × (Int → Int) × (Int → Int) × (Int → Int) × (Int → Int) × (Int → Int)) ⊕ (Int × Int × Int × (Int → Int) × (Int → Int) × (Int → Int) × (Int → Int) × (Int → Int) × (Int → Int) × (Int → Int)))) := if 4 < x6 then (some (.inl (f2, f3, g0, g2, g6, g7, g8, g9, g12))) else ((zf_M_leastClouds x4 x6 x5 f1 f2 f3 f4 f0 g0 g1 g2 g3 g4 g5 g6 g7 g8 g9 g10 g11 g12).bind fun r14 => (if r14.1 = (-1) then (rec (zi_w (x6 + 1)) r14.2.1 r14.2.2.1 r14.2.2.2.1 r14.2.2.2.2.1 r14.2.2.2.2.2.1 r14.2.2.2.2.2.2.1 r14.2.2.2.2.2.2.2.1 r14.2.2.2.2.2.2.2.2.1 r14.2.2.2.2.2.2.2.2.2) else (if x3 = 0 then (some (.inr (x6, r14.2.1, r14.2.2.1, r14.2.2.2.1, r14.2.2.2.2.1, r14.2.2.2.2.2.1, r14.2.2.2.2.2.2.1, r14.2.2.2.2.2.2.2.1, r14.2.2.2.2.2.2.2.2.1, r14.2.2.2.2.2.2.2.2.2))) else (some (.inr (r14.1, r14.2.1, r14.2.2.1, r14.2.2.2.1, r14.2.2.2.2.1, r14.2.2.2.2.2.1, r14.2.2.2.2.2.2.1, r14.2.2.2.2.2.2.2.1, r14.2.2.2.2.2.2.2.2.1, r14.2.2.2.2.2.2.2.2.2))))))
def zf_M_hidden_l1 (x3 : Int) (x4 : Int) (x5 : Int) (f0 : Int) (f1 : Int) (f4 : Int) (g1 : (Int → Int)) (g3 : (Int → Int)) (g4 : (Int → Int)) (g5 : (Int → Int)) (g10 : (Int → Int)) (g11 : (Int → Int)) : Nat → Int → Int → Int → (Int → Int) → (Int → Int) → (Int → Int) → (Int → Int) → (Int → Int) → (Int → Int) → (Int → Int) → Option (((Int × Int × (Int → Int) × (Int → Int) × (Int → Int) × (Int → Int) × (Int → Int) × (Int → Int) × (Int → Int)) ⊕ (Int × Int × Int × (Int → Int) × (Int → Int) × (Int → Int) × (Int → Int) × (Int → Int) × (Int → Int) × (Int → Int))))
  | 0, _, _, _, _, _, _, _, _, _, _ => none
  | n + 1, x6, f2, f3, g0, g2, g6, g7, g8, g9, g12 => zf_M_hidden_l1_b x3 x4 x5 f0 f1 f4 g1 g3 g4 g5 g10 g11 (zf_M_hidden_l1 x3 x4 x5 f0 f1 f4 g1 g3 g4 g5 g10 g11 n) x6 f2 f3 g0 g2 g6 g7 g8 g9 g12
def zf_M_hidden (x1 : Int) (x2 : Int) (x3 : Int) (f0 : Int) (f1 : Int) (f2 : Int) (f3 : Int) (f4 : Int) (g0 : (Int → Int)) (g1 : (Int → Int)) (g2 : (Int → Int)) (g3 : (Int → Int)) (g4 : (Int → Int)) (g5 : (Int → Int)) (g6 : (Int → Int)) (g7 : (Int → Int)) (g8 : (Int → Int)) (g9 : (Int → Int)) (g10 : (Int → Int)) (g11 : (Int → Int)) (g12 : (Int → Int)) : Option (Int × Int × Int × (Int → Int) × (Int → Int) × (Int → Int) × (Int → Int) × (Int → Int) × (Int → Int) × (Int → Int)) := (zf_M_isPlace x1 x2).bind fun r1 => (if r1 = 0 then (some ((-1), f2, f3, g0, g2, g6, g7, g8, g9, g12)) else ((zf_M_in x3 0 1).bind fun r3 => (if r3 = 0 then (some ((-1), f2, f3, g0, g2, g6, g7, g8, g9, g12)) else (if f0 = 0 then (some ((-1), f2, f3, g0, g2, g6, g7, g8, g9, g12)) else ((zf_M_canBeTold (zi_w ((zi_w (24 * x2)) + x1)) f1 f2 f3 f4 f0 g0 g1 g2 g3 g4 g5 g6 g7 g8 g9 g10 g11 g12).bind fun r6 => (if r6.1 = 0 then (some ((-3), r6.2.1, r6.2.2.1, g0, r6.2.2.2.1, r6.2.2.2.2.1, r6.2.2.2.2.2.1, r6.2.2.2.2.2.2.1, r6.2.2.2.2.2.2.2.1, r6.2.2.2.2.2.2.2.2)) else ((zf_M_hidden_l0 r6.2.1 g0 zi_fu 0 0).bind fun q12 => ((zf_M_hidden_l1 x3 (zi_w ((zi_w (24 * x2)) + x1)) q12 f0 f1 f4 g1 g3 g4 g5 g10 g11 zi_fu 1 r6.2.1 r6.2.2.1 g0 r6.2.2.2.1 r6.2.2.2.2.1 r6.2.2.2.2.2.1 r6.2.2.2.2.2.2.1 r6.2.2.2.2.2.2.2.1 r6.2.2.2.2.2.2.2.2).bind fun q17 => Sum.elim (fun e18 => (some ((-2), e18.1, e18.2.1, e18.2.2.1, e18.2.2.2.1, e18.2.2.2.2.1, e18.2.2.2.2.2.1, e18.2.2.2.2.2.2.1, e18.2.2.2.2.2.2.2.1, e18.2.2.2.2.2.2.2.2))) (fun w19 => some w19) q17))))))))
theorem zd312_0 : decode zxm312.2.1 0 = .ok (.iload_n 1, 1) := by decide +kernel
theorem zd312_1 : decode zxm312.2.1 1 = .ok (.iload_n 2, 1) := by decide +kernel
theorem zd312_2 : decode zxm312.2.1 2 = .ok (.invokestatic 154, 3) := by decide +kernel
theorem zd312_5 : decode zxm312.2.1 5 = .ok (.ifCond .eq 19, 3) := by decide +kernel
theorem zd312_8 : decode zxm312.2.1 8 = .ok (.iload_n 3, 1) := by decide +kernel
theorem zd312_9 : decode zxm312.2.1 9 = .ok (.iconst 0, 1) := by decide +kernel
theorem zd312_10 : decode zxm312.2.1 10 = .ok (.iconst 1, 1) := by decide +kernel
theorem zd312_11 : decode zxm312.2.1 11 = .ok (.invokestatic 150, 3) := by decide +kernel
theorem zd312_14 : decode zxm312.2.1 14 = .ok (.ifCond .eq 10, 3) := by decide +kernel
theorem zd312_17 : decode zxm312.2.1 17 = .ok (.aload_n 0, 1) := by decide +kernel
theorem zd312_18 : decode zxm312.2.1 18 = .ok (.getfield 351, 3) := by decide +kernel
theorem zd312_21 : decode zxm312.2.1 21 = .ok (.ifCond .ne 5, 3) := by decide +kernel
theorem zd312_24 : decode zxm312.2.1 24 = .ok (.iconst (-1), 1) := by decide +kernel
theorem zd312_25 : decode zxm312.2.1 25 = .ok (.ireturn, 1) := by decide +kernel
theorem zd312_26 : decode zxm312.2.1 26 = .ok (.bipush 24, 2) := by decide +kernel
theorem zd312_28 : decode zxm312.2.1 28 = .ok (.iload_n 2, 1) := by decide +kernel
theorem zd312_29 : decode zxm312.2.1 29 = .ok (.imul, 1) := by decide +kernel
theorem zd312_30 : decode zxm312.2.1 30 = .ok (.iload_n 1, 1) := by decide +kernel
theorem zd312_31 : decode zxm312.2.1 31 = .ok (.iadd, 1) := by decide +kernel
theorem zd312_32 : decode zxm312.2.1 32 = .ok (.istore 4, 2) := by decide +kernel
theorem zd312_34 : decode zxm312.2.1 34 = .ok (.aload_n 0, 1) := by decide +kernel
theorem zd312_35 : decode zxm312.2.1 35 = .ok (.iload 4, 2) := by decide +kernel
theorem zd312_37 : decode zxm312.2.1 37 = .ok (.invokevirtual 369, 3) := by decide +kernel
theorem zd312_40 : decode zxm312.2.1 40 = .ok (.ifCond .ne 6, 3) := by decide +kernel
theorem zd312_43 : decode zxm312.2.1 43 = .ok (.bipush (-3), 2) := by decide +kernel
theorem zd312_45 : decode zxm312.2.1 45 = .ok (.ireturn, 1) := by decide +kernel
theorem zd312_46 : decode zxm312.2.1 46 = .ok (.iconst 0, 1) := by decide +kernel
theorem zd312_47 : decode zxm312.2.1 47 = .ok (.istore 5, 2) := by decide +kernel
theorem zd312_49 : decode zxm312.2.1 49 = .ok (.iconst 0, 1) := by decide +kernel
theorem zd312_50 : decode zxm312.2.1 50 = .ok (.istore 6, 2) := by decide +kernel
theorem zd312_52 : decode zxm312.2.1 52 = .ok (.iload 6, 2) := by decide +kernel
theorem zd312_54 : decode zxm312.2.1 54 = .ok (.bipush 24, 2) := by decide +kernel
theorem zd312_56 : decode zxm312.2.1 56 = .ok (.if_icmp .ge 34, 3) := by decide +kernel
theorem zd312_59 : decode zxm312.2.1 59 = .ok (.aload_n 0, 1) := by decide +kernel
theorem zd312_60 : decode zxm312.2.1 60 = .ok (.getfield 303, 3) := by decide +kernel
theorem zd312_63 : decode zxm312.2.1 63 = .ok (.iload 6, 2) := by decide +kernel
theorem zd312_65 : decode zxm312.2.1 65 = .ok (.invokestatic 138, 3) := by decide +kernel
theorem zd312_68 : decode zxm312.2.1 68 = .ok (.ifCond .eq 16, 3) := by decide +kernel
theorem zd312_71 : decode zxm312.2.1 71 = .ok (.iload 5, 2) := by decide +kernel
theorem zd312_73 : decode zxm312.2.1 73 = .ok (.iconst 1, 1) := by decide +kernel
theorem zd312_74 : decode zxm312.2.1 74 = .ok (.aload_n 0, 1) := by decide +kernel
theorem zd312_75 : decode zxm312.2.1 75 = .ok (.iload 6, 2) := by decide +kernel
theorem zd312_77 : decode zxm312.2.1 77 = .ok (.invokevirtual 281, 3) := by decide +kernel
theorem zd312_80 : decode zxm312.2.1 80 = .ok (.ishl, 1) := by decide +kernel
theorem zd312_81 : decode zxm312.2.1 81 = .ok (.ior, 1) := by decide +kernel
theorem zd312_82 : decode zxm312.2.1 82 = .ok (.istore 5, 2) := by decide +kernel
theorem zd312_84 : decode zxm312.2.1 84 = .ok (.iinc 6 1, 3) := by decide +kernel
theorem zd312_87 : decode zxm312.2.1 87 = .ok (.goto (-35), 3) := by decide +kernel
theorem zd312_90 : decode zxm312.2.1 90 = .ok (.iconst 1, 1) := by decide +kernel
theorem zd312_91 : decode zxm312.2.1 91 = .ok (.istore 6, 2) := by decide +kernel
theorem zd312_93 : decode zxm312.2.1 93 = .ok (.iload 6, 2) := by decide +kernel
theorem zd312_95 : decode zxm312.2.1 95 = .ok (.iconst 4, 1) := by decide +kernel
theorem zd312_96 : decode zxm312.2.1 96 = .ok (.if_icmp .gt 39, 3) := by decide +kernel
theorem zd312_99 : decode zxm312.2.1 99 = .ok (.aload_n 0, 1) := by decide +kernel
theorem zd312_100 : decode zxm312.2.1 100 = .ok (.iload 4, 2) := by decide +kernel
theorem zd312_102 : decode zxm312.2.1 102 = .ok (.iload 6, 2) := by decide +kernel
theorem zd312_104 : decode zxm312.2.1 104 = .ok (.iload 5, 2) := by decide +kernel
theorem zd312_106 : decode zxm312.2.1 106 = .ok (.invokevirtual 472, 3) := by decide +kernel
theorem zd312_109 : decode zxm312.2.1 109 = .ok (.istore 7, 2) := by decide +kernel
theorem zd312_111 : decode zxm312.2.1 111 = .ok (.iload 7, 2) := by decide +kernel
theorem zd312_113 : decode zxm312.2.1 113 = .ok (.iconst (-1), 1) := by decide +kernel
theorem zd312_114 : decode zxm312.2.1 114 = .ok (.if_icmp .eq 15, 3) := by decide +kernel
theorem zd312_117 : decode zxm312.2.1 117 = .ok (.iload_n 3, 1) := by decide +kernel
theorem zd312_118 : decode zxm312.2.1 118 = .ok (.ifCond .ne 8, 3) := by decide +kernel
theorem zd312_121 : decode zxm312.2.1 121 = .ok (.iload 6, 2) := by decide +kernel
theorem zd312_123 : decode zxm312.2.1 123 = .ok (.goto 5, 3) := by decide +kernel
theorem zd312_126 : decode zxm312.2.1 126 = .ok (.iload 7, 2) := by decide +kernel
theorem zd312_128 : decode zxm312.2.1 128 = .ok (.ireturn, 1) := by decide +kernel
theorem zd312_129 : decode zxm312.2.1 129 = .ok (.iinc 6 1, 3) := by decide +kernel
theorem zd312_132 : decode zxm312.2.1 132 = .ok (.goto (-39), 3) := by decide +kernel
theorem zd312_135 : decode zxm312.2.1 135 = .ok (.bipush (-2), 2) := by decide +kernel
theorem zd312_137 : decode zxm312.2.1 137 = .ok (.ireturn, 1) := by decide +kernel
theorem zt_M_hidden {x1 : Int} {x2 : Int} {x3 : Int} {f0 : Int} {f1 : Int} {f2 : Int} {f3 : Int} {f4 : Int} {g0 : (Int → Int)} {g1 : (Int → Int)} {g2 : (Int → Int)} {g3 : (Int → Int)} {g4 : (Int → Int)} {g5 : (Int → Int)} {g6 : (Int → Int)} {g7 : (Int → Int)} {g8 : (Int → Int)} {g9 : (Int → Int)} {g10 : (Int → Int)} {g11 : (Int → Int)} {g12 : (Int → Int)} {o : Int × Int × Int × (Int → Int) × (Int → Int) × (Int → Int) × (Int → Int) × (Int → Int) × (Int → Int) × (Int → Int)} (h : zf_M_hidden x1 x2 x3 f0 f1 f2 f3 f4 g0 g1 g2 g3 g4 g5 g6 g7 g8 g9 g10 g11 g12 = some o) : zv_Fn z_TB z_cl z_KX zy_M_hidden zxm312 (8, 480) [.inr 0, .inl x1, .inl x2, .inl x3] [.inl f0, .inl f1, .inl f2, .inl f3, .inl f4] [g0, g1, g2, g3, g4, g5, g6, g7, g8, g9, g10, g11, g12] (some o.1) [.inl f0, .inl f1, .inl o.2.1, .inl o.2.2.1, .inl f4] [o.2.2.2.1, g1, o.2.2.2.2.1, g3, g4, g5, o.2.2.2.2.2.1, o.2.2.2.2.2.2.1, o.2.2.2.2.2.2.2.1, o.2.2.2.2.2.2.2.2.1, g10, g11, o.2.2.2.2.2.2.2.2.2] := zv_meth (K := (z_KF13, z_KC13, z_KL13, z_KT13, [], [], [], none)) (FT := z_FT) (MT := z_MT) (n := 4) zxp312 (z_ks13 _ (fun _ h => List.mem_cons_of_mem _ h) _ _ _ _ (fun j r h _ => by cases h)) (fun _ _ => zs_KX_p) zyw_M_hidden (fun va F G h => by obtain ⟨rfl, _⟩ := h; rfl) (fun va F G h => by obtain ⟨rfl, _⟩ := h; rfl) rfl fun good va F G hB hret hvret hP => by
  obtain ⟨rfl, rfl, rfl⟩ := hP
  have l0 : ∀ (n : Nat) (x3 : Int) (x4 : Int) (x5 : Int) (x6 : Int) (f2 : Int) (f3 : Int) (g0 : (Int → Int)) (g2 : (Int → Int)) (g6 : (Int → Int)) (g7 : (Int → Int)) (g8 : (Int → Int)) (g9 : (Int → Int)) (g12 : (Int → Int)) (q : Int), zf_M_hidden_l0 f2 g0 n x5 x6 = some q → (good 90 [.inr 0, .inr 1000, .inr 1000, .inl x3, .inl x4, .inl q, .inr 1000, .inr 1000] [] [.inl f0, .inl f1, .inl f2, .inl f3, .inl f4] [g0, g1, g2, g3, g4, g5, g6, g7, g8, g9, g10, g11, g12]) → good 52 [.inr 0, .inr 1000, .inr 1000, .inl x3, .inl x4, .inl x5, .inl x6, .inr 1000] [] [.inl f0, .inl f1, .inl f2, .inl f3, .inl f4] [g0, g1, g2, g3, g4, g5, g6, g7, g8, g9, g10, g11, g12] := by
    intro n
    induction n with
    | zero => intro x3 x4 x5 x6 f2 f3 g0 g2 g6 g7 g8 g9 g12 q h; exact absurd (show none = some q from h) (fun h => by cases h)
    | succ n ih =>
      intro x3 x4 x5 x6 f2 f3 g0 g2 g6 g7 g8 g9 g12 q h hK
      replace h : zf_M_hidden_l0_b f2 g0 (zf_M_hidden_l0 f2 g0 n) x5 x6 = some q := h
      unfold zf_M_hidden_l0_b at h
      refine zv_ild hB zd312_52 rfl rfl ?_
      refine zv_con hB zd312_54 rfl ?_
      refine zv_cge hB zd312_56 rfl (fun hc8 => ?_) (fun hc8 => ?_)
      · rw [if_neg (Int.not_lt.mpr hc8)] at h
        have hq := Option.some.inj h
        subst hq
        refine zv_wk hB (L' := [.inr 0, .inr 1000, .inr 1000, .inl x3, .inl x4, .inl x5, .inr 1000, .inr 1000]) (F' := [.inl f0, .inl f1, .inl f2, .inl f3, .inl f4]) ⟨fun _ => rfl, fun (h : zv_is (.inr 1000)) => (Nat.lt_irrefl 1000 h).elim, fun (h : zv_is (.inr 1000)) => (Nat.lt_irrefl 1000 h).elim, fun _ => rfl, fun _ => rfl, fun _ => rfl, fun (h : zv_is (.inr 1000)) => (Nat.lt_irrefl 1000 h).elim, fun (h : zv_is (.inr 1000)) => (Nat.lt_irrefl 1000 h).elim, trivial⟩ ⟨fun _ => rfl, fun _ => rfl, fun _ => rfl, fun _ => rfl, fun _ => rfl, trivial⟩ ?_
        exact hK
      · rw [if_pos hc8] at h
        refine zv_ald hB zd312_59 rfl rfl rfl ?_
        refine zv_getf hB zd312_60 rfl rfl (fun _ _ => ?_)
        refine zv_ild hB zd312_63 rfl rfl ?_
        obtain ⟨r9, hr9, h⟩ := zi_bind h
        refine zv_cs hB (zv_emq (va2 := [.inl f2, .inl x6]) (F := [.inl f0, .inl f1, .inl f2, .inl f3, .inl f4]) (F' := [.inl f0, .inl f1, .inl f2, .inl f3, .inl f4]) (G := [g0, g1, g2, g3, g4, g5, g6, g7, g8, g9, g10, g11, g12]) (G' := [g0, g1, g2, g3, g4, g5, g6, g7, g8, g9, g10, g11, g12]) (ρ := []) (φ := []) (ψ := []) [none, none, none, none, none] [none, none, none, none, none, none, none, none, none, none, none, none, none] zyw_M_has zyw_M_hidden zye_M_hidden (by decide +kernel) (zt_M_has hr9) trivial trivial rfl rfl rfl rfl rfl rfl rfl) zd312_65 zxt204 rfl (by decide) (by decide) rfl ?_
        refine zv_zeq hB zd312_68 rfl (fun hc10 => ?_) (fun hc10 => ?_)
        · rw [if_pos hc10] at h
          refine zv_iincw hB zd312_84 rfl rfl ?_
          refine zv_goto hB zd312_87 rfl ?_
          exact ih _ _ _ _ _ _ _ _ _ _ _ _ _ q h hK
        · rw [if_neg hc10] at h
          refine zv_ild hB zd312_71 rfl rfl ?_
          refine zv_con hB zd312_73 rfl ?_
          refine zv_ald hB zd312_74 rfl rfl rfl ?_
          refine zv_ild hB zd312_75 rfl rfl ?_
          obtain ⟨r11, hr11, h⟩ := zi_bind h
          refine zv_cv hB (zv_emq (va2 := [.inr 0, .inl x6]) (F := [.inl f0, .inl f1, .inl f2, .inl f3, .inl f4]) (F' := [.inl f0, .inl f1, .inl f2, .inl f3, .inl f4]) (G := [g0, g1, g2, g3, g4, g5, g6, g7, g8, g9, g10, g11, g12]) (G' := [g0, g1, g2, g3, g4, g5, g6, g7, g8, g9, g10, g11, g12]) (ρ := [0, 1]) (φ := []) (ψ := [0]) [none, none, none, none, none] [some 0, none, none, none, none, none, none, none, none, none, none, none, none] zyw_M_standsAt zyw_M_hidden zye_M_hidden (by decide +kernel) (zt_M_standsAt hr11) trivial ⟨rfl, trivial⟩ rfl rfl rfl rfl rfl rfl rfl) zd312_77 zxt238 rfl (by decide) (by decide) rfl ?_
          refine zv_shlw hB zd312_80 ?_
          refine zv_orw hB zd312_81 ?_
          refine zv_ist hB zd312_82 rfl rfl rfl ?_
          refine zv_iincw hB zd312_84 rfl rfl ?_
          refine zv_goto hB zd312_87 rfl ?_
          exact ih _ _ _ _ _ _ _ _ _ _ _ _ _ q h hK
  have l1 : ∀ (n : Nat) (x3 : Int) (x4 : Int) (x5 : Int) (x6 : Int) (f2 : Int) (f3 : Int) (g0 : (Int → Int)) (g2 : (Int → Int)) (g6 : (Int → Int)) (g7 : (Int → Int)) (g8 : (Int → Int)) (g9 : (Int → Int)) (g12 : (Int → Int)) (q : ((Int × Int × (Int → Int) × (Int → Int) × (Int → Int) × (Int → Int) × (Int → Int) × (Int → Int) × (Int → Int)) ⊕ (Int × Int × Int × (Int → Int) × (Int → Int) × (Int → Int) × (Int → Int) × (Int → Int) × (Int → Int) × (Int → Int)))), zf_M_hidden_l1 x3 x4 x5 f0 f1 f4 g1 g3 g4 g5 g10 g11 n x6 f2 f3 g0 g2 g6 g7 g8 g9 g12 = some q → (Sum.elim (fun e : Int × Int × (Int → Int) × (Int → Int) × (Int → Int) × (Int → Int) × (Int → Int) × (Int → Int) × (Int → Int) => good 135 [.inr 1000, .inr 1000, .inr 1000, .inr 1000, .inr 1000, .inr 1000, .inr 1000, .inr 1000] [] [.inl f0, .inl f1, .inl e.1, .inl e.2.1, .inl f4] [e.2.2.1, g1, e.2.2.2.1, g3, g4, g5, e.2.2.2.2.1, e.2.2.2.2.2.1, e.2.2.2.2.2.2.1, e.2.2.2.2.2.2.2.1, g10, g11, e.2.2.2.2.2.2.2.2]) (fun w : Int × Int × Int × (Int → Int) × (Int → Int) × (Int → Int) × (Int → Int) × (Int → Int) × (Int → Int) × (Int → Int) => w = o) q) → good 93 [.inr 0, .inr 1000, .inr 1000, .inl x3, .inl x4, .inl x5, .inl x6, .inr 1000] [] [.inl f0, .inl f1, .inl f2, .inl f3, .inl f4] [g0, g1, g2, g3, g4, g5, g6, g7, g8, g9, g10, g11, g12] := by
    intro n
    induction n with
    | zero => intro x3 x4 x5 x6 f2 f3 g0 g2 g6 g7 g8 g9 g12 q h; exact absurd (show none = some q from h) (fun h => by cases h)
    | succ n ih =>
      intro x3 x4 x5 x6 f2 f3 g0 g2 g6 g7 g8 g9 g12 q h hK
      replace h : zf_M_hidden_l1_b x3 x4 x5 f0 f1 f4 g1 g3 g4 g5 g10 g11 (zf_M_hidden_l1 x3 x4 x5 f0 f1 f4 g1 g3 g4 g5 g10 g11 n) x6 f2 f3 g0 g2 g6 g7 g8 g9 g12 = some q := h
      unfold zf_M_hidden_l1_b at h
      refine zv_ild hB zd312_93 rfl rfl ?_
      refine zv_con hB zd312_95 rfl ?_
      refine zv_cgt hB zd312_96 rfl (fun hc13 => ?_) (fun hc13 => ?_)
      · rw [if_pos hc13] at h
        have hq := Option.some.inj h
        subst hq
        refine zv_wk hB (L' := [.inr 1000, .inr 1000, .inr 1000, .inr 1000, .inr 1000, .inr 1000, .inr 1000, .inr 1000]) (F' := [.inl f0, .inl f1, .inl f2, .inl f3, .inl f4]) ⟨fun (h : zv_is (.inr 1000)) => (Nat.lt_irrefl 1000 h).elim, fun (h : zv_is (.inr 1000)) => (Nat.lt_irrefl 1000 h).elim, fun (h : zv_is (.inr 1000)) => (Nat.lt_irrefl 1000 h).elim, fun (h : zv_is (.inr 1000)) => (Nat.lt_irrefl 1000 h).elim, fun (h : zv_is (.inr 1000)) => (Nat.lt_irrefl 1000 h).elim, fun (h : zv_is (.inr 1000)) => (Nat.lt_irrefl 1000 h).elim, fun (h : zv_is (.inr 1000)) => (Nat.lt_irrefl 1000 h).elim, fun (h : zv_is (.inr 1000)) => (Nat.lt_irrefl 1000 h).elim, trivial⟩ ⟨fun _ => rfl, fun _ => rfl, fun _ => rfl, fun _ => rfl, fun _ => rfl, trivial⟩ ?_
        exact hK
      · rw [if_neg (Int.not_lt.mpr hc13)] at h
        refine zv_ald hB zd312_99 rfl rfl rfl ?_
        refine zv_ild hB zd312_100 rfl rfl ?_
        refine zv_ild hB zd312_102 rfl rfl ?_
        refine zv_ild hB zd312_104 rfl rfl ?_
        obtain ⟨r14, hr14, h⟩ := zi_bind h
        refine zv_cv hB (zv_emq (va2 := [.inr 0, .inl x4, .inl x6, .inl x5]) (F := [.inl f0, .inl f1, .inl f2, .inl f3, .inl f4]) (F' := [.inl f0, .inl f1, .inl r14.2.1, .inl r14.2.2.1, .inl f4]) (G := [g0, g1, g2, g3, g4, g5, g6, g7, g8, g9, g10, g11, g12]) (G' := [r14.2.2.2.1, g1, r14.2.2.2.2.1, g3, g4, g5, r14.2.2.2.2.2.1, r14.2.2.2.2.2.2.1, r14.2.2.2.2.2.2.2.1, r14.2.2.2.2.2.2.2.2.1, g10, g11, r14.2.2.2.2.2.2.2.2.2]) (ρ := [0, 1, 2, 3, 4, 5, 6, 7, 8, 9, 10, 11, 12, 13]) (φ := [1, 2, 3, 4, 0]) (ψ := [0, 1, 2, 3, 4, 5, 6, 7, 8, 9, 10, 11, 12]) [some 4, some 0, some 1, some 2, some 3] [some 0, some 1, some 2, some 3, some 4, some 5, some 6, some 7, some 8, some 9, some 10, some 11, some 12] zyw_M_leastClouds zyw_M_hidden zye_M_hidden (by decide +kernel) (zt_M_leastClouds hr14) ⟨⟨_, rfl, fun _ => rfl⟩, ⟨_, rfl, fun _ => rfl⟩, ⟨_, rfl, fun _ => rfl⟩, ⟨_, rfl, fun _ => rfl⟩, ⟨_, rfl, fun _ => rfl⟩, trivial⟩ ⟨rfl, rfl, rfl, rfl, rfl, rfl, rfl, rfl, rfl, rfl, rfl, rfl, rfl, trivial⟩ rfl rfl rfl rfl rfl rfl rfl) zd312_106 zxt313 rfl (by decide) (by decide) rfl ?_
        refine zv_ist hB zd312_109 rfl rfl rfl ?_
        refine zv_ild hB zd312_111 rfl rfl ?_
        refine zv_con hB zd312_113 rfl ?_
        refine zv_ceq hB zd312_114 rfl (fun hc15 => ?_) (fun hc15 => ?_)
        · rw [if_pos hc15] at h
          refine zv_iincw hB zd312_129 rfl rfl ?_
          refine zv_goto hB zd312_132 rfl ?_
          refine zv_wk hB (L' := [.inr 0, .inr 1000, .inr 1000, .inl x3, .inl x4, .inl x5, .inl (zi_w (x6 + 1)), .inr 1000]) (F' := [.inl f0, .inl f1, .inl r14.2.1, .inl r14.2.2.1, .inl f4]) ⟨fun _ => rfl, fun (h : zv_is (.inr 1000)) => (Nat.lt_irrefl 1000 h).elim, fun (h : zv_is (.inr 1000)) => (Nat.lt_irrefl 1000 h).elim, fun _ => rfl, fun _ => rfl, fun _ => rfl, fun _ => rfl, fun (h : zv_is (.inr 1000)) => (Nat.lt_irrefl 1000 h).elim, trivial⟩ ⟨fun _ => rfl, fun _ => rfl, fun _ => rfl, fun _ => rfl, fun _ => rfl, trivial⟩ ?_
          exact ih _ _ _ _ _ _ _ _ _ _ _ _ _ q h hK
        · rw [if_neg hc15] at h
          refine zv_ild hB zd312_117 rfl rfl ?_
          refine zv_zne hB zd312_118 rfl (fun hc16 => ?_) (fun hc16 => ?_)
          · rw [if_neg hc16] at h
            refine zv_ild hB zd312_126 rfl rfl ?_
            have hw : (r14.1, r14.2.1, r14.2.2.1, r14.2.2.2.1, r14.2.2.2.2.1, r14.2.2.2.2.2.1, r14.2.2.2.2.2.2.1, r14.2.2.2.2.2.2.2.1, r14.2.2.2.2.2.2.2.2.1, r14.2.2.2.2.2.2.2.2.2) = o := zi_rk (Option.some.inj h) hK
            subst hw
            exact hret _ _ _ _ _ zd312_128 (by trivial) ⟨rfl, rfl, rfl⟩
          · rw [if_pos hc16] at h
            refine zv_ild hB zd312_121 rfl rfl ?_
            refine zv_goto hB zd312_123 rfl ?_
            have hw : (x6, r14.2.1, r14.2.2.1, r14.2.2.2.1, r14.2.2.2.2.1, r14.2.2.2.2.2.1, r14.2.2.2.2.2.2.1, r14.2.2.2.2.2.2.2.1, r14.2.2.2.2.2.2.2.2.1, r14.2.2.2.2.2.2.2.2.2) = o := zi_rk (Option.some.inj h) hK
            subst hw
            exact hret _ _ _ _ _ zd312_128 (by trivial) ⟨rfl, rfl, rfl⟩
  unfold zf_M_hidden at h
  refine zv_ild hB zd312_0 rfl rfl ?_
  refine zv_ild hB zd312_1 rfl rfl ?_
  obtain ⟨r1, hr1, h⟩ := zi_bind h
  refine zv_cs hB (zv_emq (va2 := [.inl x1, .inl x2]) (F := [.inl f0, .inl f1, .inl f2, .inl f3, .inl f4]) (F' := [.inl f0, .inl f1, .inl f2, .inl f3, .inl f4]) (G := [g0, g1, g2, g3, g4, g5, g6, g7, g8, g9, g10, g11, g12]) (G' := [g0, g1, g2, g3, g4, g5, g6, g7, g8, g9, g10, g11, g12]) (ρ := []) (φ := []) (ψ := []) [none, none, none, none, none] [none, none, none, none, none, none, none, none, none, none, none, none, none] zyw_M_isPlace zyw_M_hidden zye_M_hidden (by decide +kernel) (zt_M_isPlace hr1) trivial trivial rfl rfl rfl rfl rfl rfl rfl) zd312_2 zxt201 rfl (by decide) (by decide) rfl ?_
  refine zv_zeq hB zd312_5 rfl (fun hc2 => ?_) (fun hc2 => ?_)
  · rw [if_pos hc2] at h
    refine zv_con hB zd312_24 rfl ?_
    have hw := Option.some.inj h
    subst hw
    exact hret _ _ _ _ _ zd312_25 (by trivial) ⟨rfl, rfl, rfl⟩
  · rw [if_neg hc2] at h
    refine zv_ild hB zd312_8 rfl rfl ?_
    refine zv_con hB zd312_9 rfl ?_
    refine zv_con hB zd312_10 rfl ?_
    obtain ⟨r3, hr3, h⟩ := zi_bind h
    refine zv_cs hB (zv_emq (va2 := [.inl x3, .inl 0, .inl 1]) (F := [.inl f0, .inl f1, .inl f2, .inl f3, .inl f4]) (F' := [.inl f0, .inl f1, .inl f2, .inl f3, .inl f4]) (G := [g0, g1, g2, g3, g4, g5, g6, g7, g8, g9, g10, g11, g12]) (G' := [g0, g1, g2, g3, g4, g5, g6, g7, g8, g9, g10, g11, g12]) (ρ := []) (φ := []) (ψ := []) [none, none, none, none, none] [none, none, none, none, none, none, none, none, none, none, none, none, none] zyw_M_in zyw_M_hidden zye_M_hidden (by decide +kernel) (zt_M_in hr3) trivial trivial rfl rfl rfl rfl rfl rfl rfl) zd312_11 zxt200 rfl (by decide) (by decide) rfl ?_
    refine zv_zeq hB zd312_14 rfl (fun hc4 => ?_) (fun hc4 => ?_)
    · rw [if_pos hc4] at h
      refine zv_con hB zd312_24 rfl ?_
      have hw := Option.some.inj h
      subst hw
      exact hret _ _ _ _ _ zd312_25 (by trivial) ⟨rfl, rfl, rfl⟩
    · rw [if_neg hc4] at h
      refine zv_ald hB zd312_17 rfl rfl rfl ?_
      refine zv_getf hB zd312_18 rfl rfl (fun _ _ => ?_)
      refine zv_zne hB zd312_21 rfl (fun hc5 => ?_) (fun hc5 => ?_)
      · rw [if_neg hc5] at h
        refine zv_con hB zd312_26 rfl ?_
        refine zv_ild hB zd312_28 rfl rfl ?_
        refine zv_mulw hB zd312_29 ?_
        refine zv_ild hB zd312_30 rfl rfl ?_
        refine zv_addw hB zd312_31 ?_
        refine zv_ist hB zd312_32 rfl rfl rfl ?_
        refine zv_ald hB zd312_34 rfl rfl rfl ?_
        refine zv_ild hB zd312_35 rfl rfl ?_
        obtain ⟨r6, hr6, h⟩ := zi_bind h
        refine zv_cv hB (zv_emq (va2 := [.inr 0, .inl (zi_w ((zi_w (24 * x2)) + x1))]) (F := [.inl f0, .inl f1, .inl f2, .inl f3, .inl f4]) (F' := [.inl f0, .inl f1, .inl r6.2.1, .inl r6.2.2.1, .inl f4]) (G := [g0, g1, g2, g3, g4, g5, g6, g7, g8, g9, g10, g11, g12]) (G' := [g0, g1, r6.2.2.2.1, g3, g4, g5, r6.2.2.2.2.1, r6.2.2.2.2.2.1, r6.2.2.2.2.2.2.1, r6.2.2.2.2.2.2.2.1, g10, g11, r6.2.2.2.2.2.2.2.2]) (ρ := [0, 1, 2, 3, 4, 5, 6, 7, 8, 9, 10, 11, 12, 13]) (φ := [1, 2, 3, 4, 0]) (ψ := [0, 1, 2, 3, 4, 5, 6, 7, 8, 9, 10, 11, 12]) [some 4, some 0, some 1, some 2, some 3] [some 0, some 1, some 2, some 3, some 4, some 5, some 6, some 7, some 8, some 9, some 10, some 11, some 12] zyw_M_canBeTold zyw_M_hidden zye_M_hidden (by decide +kernel) (zt_M_canBeTold hr6) ⟨⟨_, rfl, fun _ => rfl⟩, ⟨_, rfl, fun _ => rfl⟩, ⟨_, rfl, fun _ => rfl⟩, ⟨_, rfl, fun _ => rfl⟩, ⟨_, rfl, fun _ => rfl⟩, trivial⟩ ⟨rfl, rfl, rfl, rfl, rfl, rfl, rfl, rfl, rfl, rfl, rfl, rfl, rfl, trivial⟩ rfl rfl rfl rfl rfl rfl rfl) zd312_37 zxt272 rfl (by decide) (by decide) rfl ?_
        refine zv_zne hB zd312_40 rfl (fun hc7 => ?_) (fun hc7 => ?_)
        · rw [if_neg hc7] at h
          refine zv_con hB zd312_46 rfl ?_
          refine zv_ist hB zd312_47 rfl rfl rfl ?_
          refine zv_con hB zd312_49 rfl ?_
          refine zv_ist hB zd312_50 rfl rfl rfl ?_
          obtain ⟨q12, hq12, h⟩ := zi_bind h
          refine zv_wk hB (L' := [.inr 0, .inr 1000, .inr 1000, .inl x3, .inl (zi_w ((zi_w (24 * x2)) + x1)), .inl 0, .inl 0, .inr 1000]) (F' := [.inl f0, .inl f1, .inl r6.2.1, .inl r6.2.2.1, .inl f4]) ⟨fun _ => rfl, fun (h : zv_is (.inr 1000)) => (Nat.lt_irrefl 1000 h).elim, fun (h : zv_is (.inr 1000)) => (Nat.lt_irrefl 1000 h).elim, fun _ => rfl, fun _ => rfl, fun _ => rfl, fun _ => rfl, fun (h : zv_is (.inr 1000)) => (Nat.lt_irrefl 1000 h).elim, trivial⟩ ⟨fun _ => rfl, fun _ => rfl, fun _ => rfl, fun _ => rfl, fun _ => rfl, trivial⟩ ?_
          refine l0 _ _ _ _ _ _ _ _ _ _ _ _ _ _ q12 hq12 ?_
          show good 90 [.inr 0, .inr 1000, .inr 1000, .inl x3, .inl (zi_w ((zi_w (24 * x2)) + x1)), .inl q12, .inr 1000, .inr 1000] [] [.inl f0, .inl f1, .inl r6.2.1, .inl r6.2.2.1, .inl f4] [g0, g1, r6.2.2.2.1, g3, g4, g5, r6.2.2.2.2.1, r6.2.2.2.2.2.1, r6.2.2.2.2.2.2.1, r6.2.2.2.2.2.2.2.1, g10, g11, r6.2.2.2.2.2.2.2.2]
          refine zv_con hB zd312_90 rfl ?_
          refine zv_ist hB zd312_91 rfl rfl rfl ?_
          obtain ⟨q17, hq17, h⟩ := zi_bind h
          refine l1 _ _ _ _ _ _ _ _ _ _ _ _ _ _ q17 hq17 ?_
          rcases q17 with e18 | w19
          · replace h := zi_sl h
            show good 135 [.inr 1000, .inr 1000, .inr 1000, .inr 1000, .inr 1000, .inr 1000, .inr 1000, .inr 1000] [] [.inl f0, .inl f1, .inl e18.1, .inl e18.2.1, .inl f4] [e18.2.2.1, g1, e18.2.2.2.1, g3, g4, g5, e18.2.2.2.2.1, e18.2.2.2.2.2.1, e18.2.2.2.2.2.2.1, e18.2.2.2.2.2.2.2.1, g10, g11, e18.2.2.2.2.2.2.2.2]
            refine zv_con hB zd312_135 rfl ?_
            have hw := Option.some.inj h
            subst hw
            exact hret _ _ _ _ _ zd312_137 (by trivial) ⟨rfl, rfl, rfl⟩
          · exact Option.some.inj h
        · rw [if_pos hc7] at h
          refine zv_con hB zd312_43 rfl ?_
          have hw := Option.some.inj h
          subst hw
          exact hret _ _ _ _ _ zd312_45 (by trivial) ⟨rfl, rfl, rfl⟩
      · rw [if_pos hc5] at h
        refine zv_con hB zd312_24 rfl ?_
        have hw := Option.some.inj h
        subst hw
        exact hret _ _ _ _ _ zd312_25 (by trivial) ⟨rfl, rfl, rfl⟩
