/-! The reading of laws by the class: comparisons, pieces, parts, conditions. -/
section ZLAWR2
variable {a len fl st o : Int} {text kinds vals : Int → Int} {Fr : List Int} {Gr : List (Int → Int)}
theorem zd72_0 : decode zxm72.2.1 0 = .ok (.aload_n 0, 1) := by decide +kernel
theorem zd72_1 : decode zxm72.2.1 1 = .ok (.iload_n 1, 1) := by decide +kernel
theorem zd72_2 : decode zxm72.2.1 2 = .ok (.invokevirtual 63, 3) := by decide +kernel
theorem zd72_5 : decode zxm72.2.1 5 = .ok (.aload_n 0, 1) := by decide +kernel
theorem zd72_6 : decode zxm72.2.1 6 = .ok (.getfield 18, 3) := by decide +kernel
theorem zd72_9 : decode zxm72.2.1 9 = .ok (.ifCond .eq 4, 3) := by decide +kernel
theorem zd72_12 : decode zxm72.2.1 12 = .ok (.return_, 1) := by decide +kernel
theorem zd72_13 : decode zxm72.2.1 13 = .ok (.aload_n 0, 1) := by decide +kernel
theorem zd72_14 : decode zxm72.2.1 14 = .ok (.invokevirtual 53, 3) := by decide +kernel
theorem zd72_17 : decode zxm72.2.1 17 = .ok (.istore_n 2, 1) := by decide +kernel
theorem zd72_18 : decode zxm72.2.1 18 = .ok (.iload_n 2, 1) := by decide +kernel
theorem zd72_19 : decode zxm72.2.1 19 = .ok (.bipush 60, 2) := by decide +kernel
theorem zd72_21 : decode zxm72.2.1 21 = .ok (.if_icmp .eq 21, 3) := by decide +kernel
theorem zd72_24 : decode zxm72.2.1 24 = .ok (.iload_n 2, 1) := by decide +kernel
theorem zd72_25 : decode zxm72.2.1 25 = .ok (.bipush 62, 2) := by decide +kernel
theorem zd72_27 : decode zxm72.2.1 27 = .ok (.if_icmp .eq 15, 3) := by decide +kernel
theorem zd72_30 : decode zxm72.2.1 30 = .ok (.iload_n 2, 1) := by decide +kernel
theorem zd72_31 : decode zxm72.2.1 31 = .ok (.bipush 61, 2) := by decide +kernel
theorem zd72_33 : decode zxm72.2.1 33 = .ok (.if_icmp .eq 9, 3) := by decide +kernel
theorem zd72_36 : decode zxm72.2.1 36 = .ok (.aload_n 0, 1) := by decide +kernel
theorem zd72_37 : decode zxm72.2.1 37 = .ok (.iconst 1, 1) := by decide +kernel
theorem zd72_38 : decode zxm72.2.1 38 = .ok (.invokevirtual 57, 3) := by decide +kernel
theorem zd72_41 : decode zxm72.2.1 41 = .ok (.return_, 1) := by decide +kernel
theorem zd72_42 : decode zxm72.2.1 42 = .ok (.aload_n 0, 1) := by decide +kernel
theorem zd72_43 : decode zxm72.2.1 43 = .ok (.dup, 1) := by decide +kernel
theorem zd72_44 : decode zxm72.2.1 44 = .ok (.getfield 15, 3) := by decide +kernel
theorem zd72_47 : decode zxm72.2.1 47 = .ok (.iconst 1, 1) := by decide +kernel
theorem zd72_48 : decode zxm72.2.1 48 = .ok (.iadd, 1) := by decide +kernel
theorem zd72_49 : decode zxm72.2.1 49 = .ok (.putfield 15, 3) := by decide +kernel
theorem zd72_52 : decode zxm72.2.1 52 = .ok (.aload_n 0, 1) := by decide +kernel
theorem zd72_53 : decode zxm72.2.1 53 = .ok (.iload_n 1, 1) := by decide +kernel
theorem zd72_54 : decode zxm72.2.1 54 = .ok (.invokevirtual 63, 3) := by decide +kernel
theorem zd72_57 : decode zxm72.2.1 57 = .ok (.aload_n 0, 1) := by decide +kernel
theorem zd72_58 : decode zxm72.2.1 58 = .ok (.getfield 25, 3) := by decide +kernel
theorem zd72_61 : decode zxm72.2.1 61 = .ok (.iload_n 2, 1) := by decide +kernel
theorem zd72_62 : decode zxm72.2.1 62 = .ok (.bipush 60, 2) := by decide +kernel
theorem zd72_64 : decode zxm72.2.1 64 = .ok (.if_icmp .ne 8, 3) := by decide +kernel
theorem zd72_67 : decode zxm72.2.1 67 = .ok (.bipush 10, 2) := by decide +kernel
theorem zd72_69 : decode zxm72.2.1 69 = .ok (.goto 16, 3) := by decide +kernel
theorem zd72_72 : decode zxm72.2.1 72 = .ok (.iload_n 2, 1) := by decide +kernel
theorem zd72_73 : decode zxm72.2.1 73 = .ok (.bipush 62, 2) := by decide +kernel
theorem zd72_75 : decode zxm72.2.1 75 = .ok (.if_icmp .ne 8, 3) := by decide +kernel
theorem zd72_78 : decode zxm72.2.1 78 = .ok (.bipush 11, 2) := by decide +kernel
theorem zd72_80 : decode zxm72.2.1 80 = .ok (.goto 5, 3) := by decide +kernel
theorem zd72_83 : decode zxm72.2.1 83 = .ok (.bipush 12, 2) := by decide +kernel
theorem zd72_85 : decode zxm72.2.1 85 = .ok (.iconst 0, 1) := by decide +kernel
theorem zd72_86 : decode zxm72.2.1 86 = .ok (.invokevirtual 76, 3) := by decide +kernel
theorem zd72_89 : decode zxm72.2.1 89 = .ok (.pop, 1) := by decide +kernel
theorem zd72_90 : decode zxm72.2.1 90 = .ok (.return_, 1) := by decide +kernel
theorem zh72  {k : Nat} (hS : zr_OK zxm43 (8 + 3 * k) k) : zr_OK zxm72 (9 + 3 * k) k := fun a len fl st o text kinds vals Fr Gr => zn_meth (K := zkR) (FT := z_FT) (MT := z_MT) (n := 2) zxp72 (z_ks3 _ (fun _ h => List.mem_cons_of_mem _ h) _ _ _ _ (fun j r h _ => by cases h)) (fun _ _ => zs_KX_p) (by decide +kernel) (fun va F G h => by obtain ⟨rfl, _⟩ := h; rfl) rfl fun good va F G hB hret hvret hP => by
  obtain ⟨rfl, rfl, rfl, hs, ho1, ho2, ho3⟩ := hP
  obtain ⟨⟨b1, b2, b3, b4⟩, b5⟩ := hs
  have hs : zr_s a len st kinds vals := ⟨⟨b1, b2, b3, b4⟩, b5⟩
  refine zn_ald hB zd72_0 rfl rfl rfl ?_
  refine zn_ild hB zd72_1 rfl rfl ?_
  refine zn_iv1 hB (hS (a) len (fl) (st) (o) text (kinds) (vals) _ _) zd72_2 zxt43 (zr_hc rfl rfl rfl (show 8 + 3 * k + 1 ≤ 9 + 3 * k by omega) (show 8 + (3 + 11) + 60 * (8 + 3 * k) ≤ 60 * (9 + 3 * k) by omega)) ⟨rfl, rfl, rfl, hs, by omega, by omega, by omega⟩ (fun r2 F2 G2 hq2 => ?_)
  obtain ⟨rfl, a1, fl1, st1, kinds1, vals1, rfl, rfl, s1, r1⟩ := hq2
  obtain ⟨c1, c2, c3, c4⟩ := s1.1
  refine zn_ald hB zd72_5 rfl rfl rfl ?_
  refine zn_getf hB zd72_6 rfl rfl (fun q6 r6 => ?_)
  refine zn_zeq hB zd72_9 rfl (fun h9 => ?_) (fun h9 => ?_)
  · have body : a1 < len → good 42 [.inr 0, .inl o, .inl (zr_p text a1 len)] [] (a1 :: len :: fl1 :: st1 :: Fr) (text :: kinds1 :: vals1 :: Gr) := by
      intro hlt
      refine zn_ald hB zd72_42 rfl rfl rfl ?_
      refine zn_dup hB zd72_43 ?_
      refine zn_getf hB zd72_44 rfl rfl (fun q44 r44 => ?_)
      refine zn_con hB zd72_47 rfl ?_
      refine zn_iadd hB zd72_48 (by omega) (by omega) ?_
      refine zn_putf hB zd72_49 rfl rfl (fun h => by cases h) rfl ?_
      refine zn_ald hB zd72_52 rfl rfl rfl ?_
      refine zn_ild hB zd72_53 rfl rfl ?_
      refine zn_iv1 hB (hS (a1 + 1) len (fl1) (st1) (o) text (kinds1) (vals1) _ _) zd72_54 zxt43 (zr_hc rfl rfl rfl (show 8 + 3 * k + 1 ≤ 9 + 3 * k by omega) (show 8 + (3 + 11) + 60 * (8 + 3 * k) ≤ 60 * (9 + 3 * k) by omega)) ⟨rfl, rfl, rfl, zr_s_on s1 (by omega) (by omega), by omega, by omega, by omega⟩ (fun r54 F54 G54 hq54 => ?_)
      obtain ⟨rfl, a2, fl2, st2, kinds2, vals2, rfl, rfl, s2, r2⟩ := hq54
      have e2 := s2.1
      refine zn_ald hB zd72_57 rfl rfl rfl ?_
      refine zn_getr hB zd72_58 rfl ?_
      refine zn_ild hB zd72_61 rfl rfl ?_
      refine zn_con hB zd72_62 rfl ?_
      refine zn_cne hB zd72_64 rfl (fun h64 => ?_) (fun h64 => ?_)
      · refine zn_ild hB zd72_72 rfl rfl ?_
        refine zn_con hB zd72_73 rfl ?_
        refine zn_cne hB zd72_75 rfl (fun h75 => ?_) (fun h75 => ?_)
        · refine zn_con hB zd72_83 rfl ?_
          obtain ⟨z1, z2, z3⟩ := zr_step (kd := 12) (v := 0) s1 s2 r2 (by omega) (by omega)
          refine zn_con hB zd72_85 rfl ?_
          refine zn_iv2 hB (zh49 (st := st2) (kinds := kinds2) (vals := vals2)) zd72_86 zxt49 (zr_hc rfl rfl rfl (show 0 + 1 ≤ 9 + 3 * k by omega) (show 8 + (3 + 11) + 60 * (0) ≤ 60 * (9 + 3 * k) by omega)) ⟨rfl, rfl, rfl, by omega, by omega⟩ (fun r86 F86 G86 hq86 => ?_)
          obtain ⟨rfl, rfl, rfl⟩ := hq86
          refine zn_pop hB zd72_89 ?_
          exact hvret _ _ _ _ zd72_90 trivial ⟨rfl, _, _, _, _, _, rfl, rfl, z2, zr_r_tr r1 z3⟩
        · refine zn_con hB zd72_78 rfl ?_
          refine zn_goto hB zd72_80 rfl ?_
          obtain ⟨z1, z2, z3⟩ := zr_step (kd := 11) (v := 0) s1 s2 r2 (by omega) (by omega)
          refine zn_con hB zd72_85 rfl ?_
          refine zn_iv2 hB (zh49 (st := st2) (kinds := kinds2) (vals := vals2)) zd72_86 zxt49 (zr_hc rfl rfl rfl (show 0 + 1 ≤ 9 + 3 * k by omega) (show 8 + (3 + 11) + 60 * (0) ≤ 60 * (9 + 3 * k) by omega)) ⟨rfl, rfl, rfl, by omega, by omega⟩ (fun r86 F86 G86 hq86 => ?_)
          obtain ⟨rfl, rfl, rfl⟩ := hq86
          refine zn_pop hB zd72_89 ?_
          exact hvret _ _ _ _ zd72_90 trivial ⟨rfl, _, _, _, _, _, rfl, rfl, z2, zr_r_tr r1 z3⟩
      · refine zn_con hB zd72_67 rfl ?_
        refine zn_goto hB zd72_69 rfl ?_
        obtain ⟨z1, z2, z3⟩ := zr_step (kd := 10) (v := 0) s1 s2 r2 (by omega) (by omega)
        refine zn_con hB zd72_85 rfl ?_
        refine zn_iv2 hB (zh49 (st := st2) (kinds := kinds2) (vals := vals2)) zd72_86 zxt49 (zr_hc rfl rfl rfl (show 0 + 1 ≤ 9 + 3 * k by omega) (show 8 + (3 + 11) + 60 * (0) ≤ 60 * (9 + 3 * k) by omega)) ⟨rfl, rfl, rfl, by omega, by omega⟩ (fun r86 F86 G86 hq86 => ?_)
        obtain ⟨rfl, rfl, rfl⟩ := hq86
        refine zn_pop hB zd72_89 ?_
        exact hvret _ _ _ _ zd72_90 trivial ⟨rfl, _, _, _, _, _, rfl, rfl, z2, zr_r_tr r1 z3⟩
    refine zn_ald hB zd72_13 rfl rfl rfl ?_
    refine zn_iv0 hB (zh40 (a := a1) (len := len) (text := text)) zd72_14 zxt40 (zr_hc rfl rfl rfl (show 0 + 1 ≤ 9 + 3 * k by omega) (show 8 + (1 + 11) + 60 * (0) ≤ 60 * (9 + 3 * k) by omega)) ⟨rfl, rfl, rfl, by omega⟩ (fun r14 F14 G14 hq14 => ?_)
    obtain ⟨rfl, rfl, rfl⟩ := hq14
    refine zn_ist hB zd72_17 rfl rfl rfl ?_
    refine zn_ild hB zd72_18 rfl rfl ?_
    refine zn_con hB zd72_19 rfl ?_
    refine zn_ceq hB zd72_21 rfl (fun h21 => ?_) (fun h21 => ?_)
    · exact body (zr_p_lt (text := text) (by omega)).2
    · refine zn_ild hB zd72_24 rfl rfl ?_
      refine zn_con hB zd72_25 rfl ?_
      refine zn_ceq hB zd72_27 rfl (fun h27 => ?_) (fun h27 => ?_)
      · exact body (zr_p_lt (text := text) (by omega)).2
      · refine zn_ild hB zd72_30 rfl rfl ?_
        refine zn_con hB zd72_31 rfl ?_
        refine zn_ceq hB zd72_33 rfl (fun h33 => ?_) (fun h33 => ?_)
        · exact body (zr_p_lt (text := text) (by omega)).2
        · refine zn_ald hB zd72_36 rfl rfl rfl ?_
          refine zn_con hB zd72_37 rfl ?_
          refine zn_iv1 hB zh41 zd72_38 zxt41 (zr_hc rfl rfl rfl (show 1 + 1 ≤ 9 + 3 * k by omega) (show 8 + (2 + 11) + 60 * (1) ≤ 60 * (9 + 3 * k) by omega)) ⟨rfl, rfl⟩ (fun r38 F38 G38 hq38 => ?_)
          obtain ⟨rfl, fl1, rfl, rfl⟩ := hq38
          exact hvret _ _ _ _ zd72_41 trivial ⟨rfl, _, _, _, _, _, rfl, rfl, s1, r1⟩
  · exact hvret _ _ _ _ zd72_12 trivial ⟨rfl, _, _, _, _, _, rfl, rfl, s1, r1⟩
theorem zd71_0 : decode zxm71.2.1 0 = .ok (.aload_n 0, 1) := by decide +kernel
theorem zd71_1 : decode zxm71.2.1 1 = .ok (.invokevirtual 53, 3) := by decide +kernel
theorem zd71_4 : decode zxm71.2.1 4 = .ok (.istore_n 2, 1) := by decide +kernel
theorem zd71_5 : decode zxm71.2.1 5 = .ok (.aload_n 0, 1) := by decide +kernel
theorem zd71_6 : decode zxm71.2.1 6 = .ok (.getfield 18, 3) := by decide +kernel
theorem zd71_9 : decode zxm71.2.1 9 = .ok (.ifCond .eq 4, 3) := by decide +kernel
theorem zd71_12 : decode zxm71.2.1 12 = .ok (.return_, 1) := by decide +kernel
theorem zd71_13 : decode zxm71.2.1 13 = .ok (.iload_n 2, 1) := by decide +kernel
theorem zd71_14 : decode zxm71.2.1 14 = .ok (.bipush 33, 2) := by decide +kernel
theorem zd71_16 : decode zxm71.2.1 16 = .ok (.if_icmp .eq 17, 3) := by decide +kernel
theorem zd71_19 : decode zxm71.2.1 19 = .ok (.iload_n 2, 1) := by decide +kernel
theorem zd71_20 : decode zxm71.2.1 20 = .ok (.bipush 40, 2) := by decide +kernel
theorem zd71_22 : decode zxm71.2.1 22 = .ok (.if_icmp .eq 11, 3) := by decide +kernel
theorem zd71_25 : decode zxm71.2.1 25 = .ok (.aload_n 0, 1) := by decide +kernel
theorem zd71_26 : decode zxm71.2.1 26 = .ok (.iload_n 1, 1) := by decide +kernel
theorem zd71_27 : decode zxm71.2.1 27 = .ok (.invokevirtual 85, 3) := by decide +kernel
theorem zd71_30 : decode zxm71.2.1 30 = .ok (.goto 76, 3) := by decide +kernel
theorem zd71_33 : decode zxm71.2.1 33 = .ok (.iload_n 1, 1) := by decide +kernel
theorem zd71_34 : decode zxm71.2.1 34 = .ok (.bipush 6, 2) := by decide +kernel
theorem zd71_36 : decode zxm71.2.1 36 = .ok (.if_icmp .lt 11, 3) := by decide +kernel
theorem zd71_39 : decode zxm71.2.1 39 = .ok (.aload_n 0, 1) := by decide +kernel
theorem zd71_40 : decode zxm71.2.1 40 = .ok (.iconst 5, 1) := by decide +kernel
theorem zd71_41 : decode zxm71.2.1 41 = .ok (.invokevirtual 57, 3) := by decide +kernel
theorem zd71_44 : decode zxm71.2.1 44 = .ok (.goto 62, 3) := by decide +kernel
theorem zd71_47 : decode zxm71.2.1 47 = .ok (.iload_n 2, 1) := by decide +kernel
theorem zd71_48 : decode zxm71.2.1 48 = .ok (.bipush 33, 2) := by decide +kernel
theorem zd71_50 : decode zxm71.2.1 50 = .ok (.if_icmp .ne 33, 3) := by decide +kernel
theorem zd71_53 : decode zxm71.2.1 53 = .ok (.aload_n 0, 1) := by decide +kernel
theorem zd71_54 : decode zxm71.2.1 54 = .ok (.dup, 1) := by decide +kernel
theorem zd71_55 : decode zxm71.2.1 55 = .ok (.getfield 15, 3) := by decide +kernel
theorem zd71_58 : decode zxm71.2.1 58 = .ok (.iconst 1, 1) := by decide +kernel
theorem zd71_59 : decode zxm71.2.1 59 = .ok (.iadd, 1) := by decide +kernel
theorem zd71_60 : decode zxm71.2.1 60 = .ok (.putfield 15, 3) := by decide +kernel
theorem zd71_63 : decode zxm71.2.1 63 = .ok (.aload_n 0, 1) := by decide +kernel
theorem zd71_64 : decode zxm71.2.1 64 = .ok (.iload_n 1, 1) := by decide +kernel
theorem zd71_65 : decode zxm71.2.1 65 = .ok (.iconst 1, 1) := by decide +kernel
theorem zd71_66 : decode zxm71.2.1 66 = .ok (.iadd, 1) := by decide +kernel
theorem zd71_67 : decode zxm71.2.1 67 = .ok (.invokevirtual 82, 3) := by decide +kernel
theorem zd71_70 : decode zxm71.2.1 70 = .ok (.aload_n 0, 1) := by decide +kernel
theorem zd71_71 : decode zxm71.2.1 71 = .ok (.getfield 25, 3) := by decide +kernel
theorem zd71_74 : decode zxm71.2.1 74 = .ok (.iconst 2, 1) := by decide +kernel
theorem zd71_75 : decode zxm71.2.1 75 = .ok (.iconst 0, 1) := by decide +kernel
theorem zd71_76 : decode zxm71.2.1 76 = .ok (.invokevirtual 76, 3) := by decide +kernel
theorem zd71_79 : decode zxm71.2.1 79 = .ok (.pop, 1) := by decide +kernel
theorem zd71_80 : decode zxm71.2.1 80 = .ok (.goto 26, 3) := by decide +kernel
theorem zd71_83 : decode zxm71.2.1 83 = .ok (.aload_n 0, 1) := by decide +kernel
theorem zd71_84 : decode zxm71.2.1 84 = .ok (.dup, 1) := by decide +kernel
theorem zd71_85 : decode zxm71.2.1 85 = .ok (.getfield 15, 3) := by decide +kernel
theorem zd71_88 : decode zxm71.2.1 88 = .ok (.iconst 1, 1) := by decide +kernel
theorem zd71_89 : decode zxm71.2.1 89 = .ok (.iadd, 1) := by decide +kernel
theorem zd71_90 : decode zxm71.2.1 90 = .ok (.putfield 15, 3) := by decide +kernel
theorem zd71_93 : decode zxm71.2.1 93 = .ok (.aload_n 0, 1) := by decide +kernel
theorem zd71_94 : decode zxm71.2.1 94 = .ok (.iload_n 1, 1) := by decide +kernel
theorem zd71_95 : decode zxm71.2.1 95 = .ok (.iconst 1, 1) := by decide +kernel
theorem zd71_96 : decode zxm71.2.1 96 = .ok (.iadd, 1) := by decide +kernel
theorem zd71_97 : decode zxm71.2.1 97 = .ok (.invokevirtual 66, 3) := by decide +kernel
theorem zd71_100 : decode zxm71.2.1 100 = .ok (.aload_n 0, 1) := by decide +kernel
theorem zd71_101 : decode zxm71.2.1 101 = .ok (.bipush 41, 2) := by decide +kernel
theorem zd71_103 : decode zxm71.2.1 103 = .ok (.invokevirtual 43, 3) := by decide +kernel
theorem zd71_106 : decode zxm71.2.1 106 = .ok (.return_, 1) := by decide +kernel
theorem zh71  {k : Nat} (hK : zr_OK zxm72 (9 + 3 * k) k) (hP : ∀ k', k = k' + 1 → zr_OK zxm71 (10 + 3 * k') k') (hC : ∀ k', k = k' + 1 → zr_OK zxm69 (12 + 3 * k') k') : zr_OK zxm71 (10 + 3 * k) k := fun a len fl st o text kinds vals Fr Gr => zn_meth (K := zkR) (FT := z_FT) (MT := z_MT) (n := 2) zxp71 (z_ks3 _ (fun _ h => List.mem_cons_of_mem _ h) _ _ _ _ (fun j r h _ => by cases h)) (fun _ _ => zs_KX_p) (by decide +kernel) (fun va F G h => by obtain ⟨rfl, _⟩ := h; rfl) rfl fun good va F G hB hret hvret hP => by
  obtain ⟨rfl, rfl, rfl, hs, ho1, ho2, ho3⟩ := hP
  obtain ⟨⟨b1, b2, b3, b4⟩, b5⟩ := hs
  have hs : zr_s a len st kinds vals := ⟨⟨b1, b2, b3, b4⟩, b5⟩
  refine zn_ald hB zd71_0 rfl rfl rfl ?_
  refine zn_iv0 hB (zh40 (a := a) (len := len) (text := text)) zd71_1 zxt40 (zr_hc rfl rfl rfl (show 0 + 1 ≤ 10 + 3 * k by omega) (show 8 + (1 + 11) + 60 * (0) ≤ 60 * (10 + 3 * k) by omega)) ⟨rfl, rfl, rfl, by omega⟩ (fun r1 F1 G1 hq1 => ?_)
  obtain ⟨rfl, rfl, rfl⟩ := hq1
  refine zn_ist hB zd71_4 rfl rfl rfl ?_
  refine zn_ald hB zd71_5 rfl rfl rfl ?_
  refine zn_getf hB zd71_6 rfl rfl (fun q6 r6 => ?_)
  refine zn_zeq hB zd71_9 rfl (fun h9 => ?_) (fun h9 => ?_)
  · refine zn_ild hB zd71_13 rfl rfl ?_
    refine zn_con hB zd71_14 rfl ?_
    refine zn_ceq hB zd71_16 rfl (fun h16 => ?_) (fun h16 => ?_)
    · refine zn_ild hB zd71_33 rfl rfl ?_
      refine zn_con hB zd71_34 rfl ?_
      refine zn_clt hB zd71_36 rfl (fun h36 => ?_) (fun h36 => ?_)
      · have hlt := zr_p_lt (text := text) (a := a) (len := len) (by omega)
        obtain ⟨k', hk⟩ : ∃ k', k = k' + 1 := ⟨k - 1, by omega⟩
        refine zn_ild hB zd71_47 rfl rfl ?_
        refine zn_con hB zd71_48 rfl ?_
        refine zn_cne hB zd71_50 rfl (fun h50 => ?_) (fun h50 => ?_)
        · refine zn_ald hB zd71_83 rfl rfl rfl ?_
          refine zn_dup hB zd71_84 ?_
          refine zn_getf hB zd71_85 rfl rfl (fun q85 r85 => ?_)
          refine zn_con hB zd71_88 rfl ?_
          refine zn_iadd hB zd71_89 (by omega) (by omega) ?_
          refine zn_putf hB zd71_90 rfl rfl (fun h => by cases h) rfl ?_
          refine zn_ald hB zd71_93 rfl rfl rfl ?_
          refine zn_ild hB zd71_94 rfl rfl ?_
          refine zn_con hB zd71_95 rfl ?_
          refine zn_iadd hB zd71_96 (by omega) (by omega) ?_
          refine zn_iv1 hB ((hC k' hk) (a + 1) len (fl) (st) (o + 1) text (kinds) (vals) _ _) zd71_97 zxt69 (zr_hc rfl rfl rfl (show 12 + 3 * k' + 1 ≤ 10 + 3 * k by omega) (show 8 + (3 + 11) + 60 * (12 + 3 * k') ≤ 60 * (10 + 3 * k) by omega)) ⟨rfl, rfl, rfl, zr_s_on hs (by omega) (by omega), by omega, by omega, by omega⟩ (fun r97 F97 G97 hq97 => ?_)
          obtain ⟨rfl, a2, fl2, st2, kinds2, vals2, rfl, rfl, s2, r2⟩ := hq97
          have e2 := s2.1
          refine zn_ald hB zd71_100 rfl rfl rfl ?_
          refine zn_con hB zd71_101 rfl ?_
          refine zn_iv1 hB (zh46 (a := a2) (len := len)) zd71_103 zxt46 (zr_hc rfl rfl rfl (show 2 + 1 ≤ 10 + 3 * k by omega) (show 8 + (2 + 11) + 60 * (2) ≤ 60 * (10 + 3 * k) by omega)) ⟨rfl, rfl, rfl, by omega, by omega, by omega, by omega⟩ (fun r103 F103 G103 hq103 => ?_)
          obtain ⟨rfl, a3, fl3, rfl, rfl, k1, k2⟩ := hq103
          first | exact hvret _ _ _ _ zd71_106 trivial ⟨rfl, _, _, _, _, _, rfl, rfl, z2, z3⟩ | exact hvret _ _ _ _ zd71_106 trivial ⟨rfl, _, _, _, _, _, rfl, rfl, zr_s_on s2 k1 k2, zr_r_on (zr_r_in r2) k1⟩ | exact hvret _ _ _ _ zd71_106 trivial ⟨rfl, _, _, _, _, _, rfl, rfl, s2, r2⟩ | exact hvret _ _ _ _ zd71_106 trivial ⟨rfl, _, _, _, _, _, rfl, rfl, hs, zr_r_rf⟩
        · refine zn_ald hB zd71_53 rfl rfl rfl ?_
          refine zn_dup hB zd71_54 ?_
          refine zn_getf hB zd71_55 rfl rfl (fun q55 r55 => ?_)
          refine zn_con hB zd71_58 rfl ?_
          refine zn_iadd hB zd71_59 (by omega) (by omega) ?_
          refine zn_putf hB zd71_60 rfl rfl (fun h => by cases h) rfl ?_
          refine zn_ald hB zd71_63 rfl rfl rfl ?_
          refine zn_ild hB zd71_64 rfl rfl ?_
          refine zn_con hB zd71_65 rfl ?_
          refine zn_iadd hB zd71_66 (by omega) (by omega) ?_
          refine zn_iv1 hB ((hP k' hk) (a + 1) len (fl) (st) (o + 1) text (kinds) (vals) _ _) zd71_67 zxt71 (zr_hc rfl rfl rfl (show 10 + 3 * k' + 1 ≤ 10 + 3 * k by omega) (show 8 + (3 + 11) + 60 * (10 + 3 * k') ≤ 60 * (10 + 3 * k) by omega)) ⟨rfl, rfl, rfl, zr_s_on hs (by omega) (by omega), by omega, by omega, by omega⟩ (fun r67 F67 G67 hq67 => ?_)
          obtain ⟨rfl, a2, fl2, st2, kinds2, vals2, rfl, rfl, s2, r2⟩ := hq67
          have e2 := s2.1
          obtain ⟨z1, z2, z3⟩ := zr_step (kd := 2) (v := 0) hs s2 r2 (by omega) (by omega)
          refine zn_ald hB zd71_70 rfl rfl rfl ?_
          refine zn_getr hB zd71_71 rfl ?_
          refine zn_con hB zd71_74 rfl ?_
          refine zn_con hB zd71_75 rfl ?_
          refine zn_iv2 hB (zh49 (st := st2) (kinds := kinds2) (vals := vals2)) zd71_76 zxt49 (zr_hc rfl rfl rfl (show 0 + 1 ≤ 10 + 3 * k by omega) (show 8 + (3 + 11) + 60 * (0) ≤ 60 * (10 + 3 * k) by omega)) ⟨rfl, rfl, rfl, by omega, by omega⟩ (fun r76 F76 G76 hq76 => ?_)
          obtain ⟨rfl, rfl, rfl⟩ := hq76
          refine zn_pop hB zd71_79 ?_
          refine zn_goto hB zd71_80 rfl ?_
          first | exact hvret _ _ _ _ zd71_106 trivial ⟨rfl, _, _, _, _, _, rfl, rfl, z2, z3⟩ | exact hvret _ _ _ _ zd71_106 trivial ⟨rfl, _, _, _, _, _, rfl, rfl, zr_s_on s2 k1 k2, zr_r_on (zr_r_in r2) k1⟩ | exact hvret _ _ _ _ zd71_106 trivial ⟨rfl, _, _, _, _, _, rfl, rfl, s2, r2⟩ | exact hvret _ _ _ _ zd71_106 trivial ⟨rfl, _, _, _, _, _, rfl, rfl, hs, zr_r_rf⟩
      · refine zn_ald hB zd71_39 rfl rfl rfl ?_
        refine zn_con hB zd71_40 rfl ?_
        refine zn_iv1 hB zh41 zd71_41 zxt41 (zr_hc rfl rfl rfl (show 1 + 1 ≤ 10 + 3 * k by omega) (show 8 + (2 + 11) + 60 * (1) ≤ 60 * (10 + 3 * k) by omega)) ⟨rfl, rfl⟩ (fun r41 F41 G41 hq41 => ?_)
        obtain ⟨rfl, fl1, rfl, rfl⟩ := hq41
        refine zn_goto hB zd71_44 rfl ?_
        first | exact hvret _ _ _ _ zd71_106 trivial ⟨rfl, _, _, _, _, _, rfl, rfl, z2, z3⟩ | exact hvret _ _ _ _ zd71_106 trivial ⟨rfl, _, _, _, _, _, rfl, rfl, zr_s_on s2 k1 k2, zr_r_on (zr_r_in r2) k1⟩ | exact hvret _ _ _ _ zd71_106 trivial ⟨rfl, _, _, _, _, _, rfl, rfl, s2, r2⟩ | exact hvret _ _ _ _ zd71_106 trivial ⟨rfl, _, _, _, _, _, rfl, rfl, hs, zr_r_rf⟩
    · refine zn_ild hB zd71_19 rfl rfl ?_
      refine zn_con hB zd71_20 rfl ?_
      refine zn_ceq hB zd71_22 rfl (fun h22 => ?_) (fun h22 => ?_)
      · refine zn_ild hB zd71_33 rfl rfl ?_
        refine zn_con hB zd71_34 rfl ?_
        refine zn_clt hB zd71_36 rfl (fun h36 => ?_) (fun h36 => ?_)
        · have hlt := zr_p_lt (text := text) (a := a) (len := len) (by omega)
          obtain ⟨k', hk⟩ : ∃ k', k = k' + 1 := ⟨k - 1, by omega⟩
          refine zn_ild hB zd71_47 rfl rfl ?_
          refine zn_con hB zd71_48 rfl ?_
          refine zn_cne hB zd71_50 rfl (fun h50 => ?_) (fun h50 => ?_)
          · refine zn_ald hB zd71_83 rfl rfl rfl ?_
            refine zn_dup hB zd71_84 ?_
            refine zn_getf hB zd71_85 rfl rfl (fun q85 r85 => ?_)
            refine zn_con hB zd71_88 rfl ?_
            refine zn_iadd hB zd71_89 (by omega) (by omega) ?_
            refine zn_putf hB zd71_90 rfl rfl (fun h => by cases h) rfl ?_
            refine zn_ald hB zd71_93 rfl rfl rfl ?_
            refine zn_ild hB zd71_94 rfl rfl ?_
            refine zn_con hB zd71_95 rfl ?_
            refine zn_iadd hB zd71_96 (by omega) (by omega) ?_
            refine zn_iv1 hB ((hC k' hk) (a + 1) len (fl) (st) (o + 1) text (kinds) (vals) _ _) zd71_97 zxt69 (zr_hc rfl rfl rfl (show 12 + 3 * k' + 1 ≤ 10 + 3 * k by omega) (show 8 + (3 + 11) + 60 * (12 + 3 * k') ≤ 60 * (10 + 3 * k) by omega)) ⟨rfl, rfl, rfl, zr_s_on hs (by omega) (by omega), by omega, by omega, by omega⟩ (fun r97 F97 G97 hq97 => ?_)
            obtain ⟨rfl, a2, fl2, st2, kinds2, vals2, rfl, rfl, s2, r2⟩ := hq97
            have e2 := s2.1
            refine zn_ald hB zd71_100 rfl rfl rfl ?_
            refine zn_con hB zd71_101 rfl ?_
            refine zn_iv1 hB (zh46 (a := a2) (len := len)) zd71_103 zxt46 (zr_hc rfl rfl rfl (show 2 + 1 ≤ 10 + 3 * k by omega) (show 8 + (2 + 11) + 60 * (2) ≤ 60 * (10 + 3 * k) by omega)) ⟨rfl, rfl, rfl, by omega, by omega, by omega, by omega⟩ (fun r103 F103 G103 hq103 => ?_)
            obtain ⟨rfl, a3, fl3, rfl, rfl, k1, k2⟩ := hq103
            first | exact hvret _ _ _ _ zd71_106 trivial ⟨rfl, _, _, _, _, _, rfl, rfl, z2, z3⟩ | exact hvret _ _ _ _ zd71_106 trivial ⟨rfl, _, _, _, _, _, rfl, rfl, zr_s_on s2 k1 k2, zr_r_on (zr_r_in r2) k1⟩ | exact hvret _ _ _ _ zd71_106 trivial ⟨rfl, _, _, _, _, _, rfl, rfl, s2, r2⟩ | exact hvret _ _ _ _ zd71_106 trivial ⟨rfl, _, _, _, _, _, rfl, rfl, hs, zr_r_rf⟩
          · refine zn_ald hB zd71_53 rfl rfl rfl ?_
            refine zn_dup hB zd71_54 ?_
            refine zn_getf hB zd71_55 rfl rfl (fun q55 r55 => ?_)
            refine zn_con hB zd71_58 rfl ?_
            refine zn_iadd hB zd71_59 (by omega) (by omega) ?_
            refine zn_putf hB zd71_60 rfl rfl (fun h => by cases h) rfl ?_
            refine zn_ald hB zd71_63 rfl rfl rfl ?_
            refine zn_ild hB zd71_64 rfl rfl ?_
            refine zn_con hB zd71_65 rfl ?_
            refine zn_iadd hB zd71_66 (by omega) (by omega) ?_
            refine zn_iv1 hB ((hP k' hk) (a + 1) len (fl) (st) (o + 1) text (kinds) (vals) _ _) zd71_67 zxt71 (zr_hc rfl rfl rfl (show 10 + 3 * k' + 1 ≤ 10 + 3 * k by omega) (show 8 + (3 + 11) + 60 * (10 + 3 * k') ≤ 60 * (10 + 3 * k) by omega)) ⟨rfl, rfl, rfl, zr_s_on hs (by omega) (by omega), by omega, by omega, by omega⟩ (fun r67 F67 G67 hq67 => ?_)
            obtain ⟨rfl, a2, fl2, st2, kinds2, vals2, rfl, rfl, s2, r2⟩ := hq67
            have e2 := s2.1
            obtain ⟨z1, z2, z3⟩ := zr_step (kd := 2) (v := 0) hs s2 r2 (by omega) (by omega)
            refine zn_ald hB zd71_70 rfl rfl rfl ?_
            refine zn_getr hB zd71_71 rfl ?_
            refine zn_con hB zd71_74 rfl ?_
            refine zn_con hB zd71_75 rfl ?_
            refine zn_iv2 hB (zh49 (st := st2) (kinds := kinds2) (vals := vals2)) zd71_76 zxt49 (zr_hc rfl rfl rfl (show 0 + 1 ≤ 10 + 3 * k by omega) (show 8 + (3 + 11) + 60 * (0) ≤ 60 * (10 + 3 * k) by omega)) ⟨rfl, rfl, rfl, by omega, by omega⟩ (fun r76 F76 G76 hq76 => ?_)
            obtain ⟨rfl, rfl, rfl⟩ := hq76
            refine zn_pop hB zd71_79 ?_
            refine zn_goto hB zd71_80 rfl ?_
            first | exact hvret _ _ _ _ zd71_106 trivial ⟨rfl, _, _, _, _, _, rfl, rfl, z2, z3⟩ | exact hvret _ _ _ _ zd71_106 trivial ⟨rfl, _, _, _, _, _, rfl, rfl, zr_s_on s2 k1 k2, zr_r_on (zr_r_in r2) k1⟩ | exact hvret _ _ _ _ zd71_106 trivial ⟨rfl, _, _, _, _, _, rfl, rfl, s2, r2⟩ | exact hvret _ _ _ _ zd71_106 trivial ⟨rfl, _, _, _, _, _, rfl, rfl, hs, zr_r_rf⟩
        · refine zn_ald hB zd71_39 rfl rfl rfl ?_
          refine zn_con hB zd71_40 rfl ?_
          refine zn_iv1 hB zh41 zd71_41 zxt41 (zr_hc rfl rfl rfl (show 1 + 1 ≤ 10 + 3 * k by omega) (show 8 + (2 + 11) + 60 * (1) ≤ 60 * (10 + 3 * k) by omega)) ⟨rfl, rfl⟩ (fun r41 F41 G41 hq41 => ?_)
          obtain ⟨rfl, fl1, rfl, rfl⟩ := hq41
          refine zn_goto hB zd71_44 rfl ?_
          first | exact hvret _ _ _ _ zd71_106 trivial ⟨rfl, _, _, _, _, _, rfl, rfl, z2, z3⟩ | exact hvret _ _ _ _ zd71_106 trivial ⟨rfl, _, _, _, _, _, rfl, rfl, zr_s_on s2 k1 k2, zr_r_on (zr_r_in r2) k1⟩ | exact hvret _ _ _ _ zd71_106 trivial ⟨rfl, _, _, _, _, _, rfl, rfl, s2, r2⟩ | exact hvret _ _ _ _ zd71_106 trivial ⟨rfl, _, _, _, _, _, rfl, rfl, hs, zr_r_rf⟩
      · refine zn_ald hB zd71_25 rfl rfl rfl ?_
        refine zn_ild hB zd71_26 rfl rfl ?_
        refine zn_iv1 hB (hK (a) len (fl) (st) (o) text (kinds) (vals) _ _) zd71_27 zxt72 (zr_hc rfl rfl rfl (show 9 + 3 * k + 1 ≤ 10 + 3 * k by omega) (show 8 + (3 + 11) + 60 * (9 + 3 * k) ≤ 60 * (10 + 3 * k) by omega)) ⟨rfl, rfl, rfl, hs, by omega, by omega, by omega⟩ (fun r27 F27 G27 hq27 => ?_)
        obtain ⟨rfl, a2, fl2, st2, kinds2, vals2, rfl, rfl, s2, r2⟩ := hq27
        refine zn_goto hB zd71_30 rfl ?_
        first | exact hvret _ _ _ _ zd71_106 trivial ⟨rfl, _, _, _, _, _, rfl, rfl, z2, z3⟩ | exact hvret _ _ _ _ zd71_106 trivial ⟨rfl, _, _, _, _, _, rfl, rfl, zr_s_on s2 k1 k2, zr_r_on (zr_r_in r2) k1⟩ | exact hvret _ _ _ _ zd71_106 trivial ⟨rfl, _, _, _, _, _, rfl, rfl, s2, r2⟩ | exact hvret _ _ _ _ zd71_106 trivial ⟨rfl, _, _, _, _, _, rfl, rfl, hs, zr_r_rf⟩
  · exact hvret _ _ _ _ zd71_12 trivial ⟨rfl, _, _, _, _, _, rfl, rfl, hs, zr_r_rf⟩
theorem zd70_0 : decode zxm70.2.1 0 = .ok (.aload_n 0, 1) := by decide +kernel
theorem zd70_1 : decode zxm70.2.1 1 = .ok (.iload_n 1, 1) := by decide +kernel
theorem zd70_2 : decode zxm70.2.1 2 = .ok (.invokevirtual 82, 3) := by decide +kernel
theorem zd70_5 : decode zxm70.2.1 5 = .ok (.aload_n 0, 1) := by decide +kernel
theorem zd70_6 : decode zxm70.2.1 6 = .ok (.getfield 18, 3) := by decide +kernel
theorem zd70_9 : decode zxm70.2.1 9 = .ok (.ifCond .ne 64, 3) := by decide +kernel
theorem zd70_12 : decode zxm70.2.1 12 = .ok (.aload_n 0, 1) := by decide +kernel
theorem zd70_13 : decode zxm70.2.1 13 = .ok (.getfield 15, 3) := by decide +kernel
theorem zd70_16 : decode zxm70.2.1 16 = .ok (.aload_n 0, 1) := by decide +kernel
theorem zd70_17 : decode zxm70.2.1 17 = .ok (.getfield 9, 3) := by decide +kernel
theorem zd70_20 : decode zxm70.2.1 20 = .ok (.if_icmp .ge 53, 3) := by decide +kernel
theorem zd70_23 : decode zxm70.2.1 23 = .ok (.aload_n 0, 1) := by decide +kernel
theorem zd70_24 : decode zxm70.2.1 24 = .ok (.getfield 21, 3) := by decide +kernel
theorem zd70_27 : decode zxm70.2.1 27 = .ok (.aload_n 0, 1) := by decide +kernel
theorem zd70_28 : decode zxm70.2.1 28 = .ok (.getfield 15, 3) := by decide +kernel
theorem zd70_31 : decode zxm70.2.1 31 = .ok (.iaload, 1) := by decide +kernel
theorem zd70_32 : decode zxm70.2.1 32 = .ok (.bipush 38, 2) := by decide +kernel
theorem zd70_34 : decode zxm70.2.1 34 = .ok (.if_icmp .ne 39, 3) := by decide +kernel
theorem zd70_37 : decode zxm70.2.1 37 = .ok (.aload_n 0, 1) := by decide +kernel
theorem zd70_38 : decode zxm70.2.1 38 = .ok (.dup, 1) := by decide +kernel
theorem zd70_39 : decode zxm70.2.1 39 = .ok (.getfield 15, 3) := by decide +kernel
theorem zd70_42 : decode zxm70.2.1 42 = .ok (.iconst 1, 1) := by decide +kernel
theorem zd70_43 : decode zxm70.2.1 43 = .ok (.iadd, 1) := by decide +kernel
theorem zd70_44 : decode zxm70.2.1 44 = .ok (.putfield 15, 3) := by decide +kernel
theorem zd70_47 : decode zxm70.2.1 47 = .ok (.aload_n 0, 1) := by decide +kernel
theorem zd70_48 : decode zxm70.2.1 48 = .ok (.getfield 25, 3) := by decide +kernel
theorem zd70_51 : decode zxm70.2.1 51 = .ok (.iconst 4, 1) := by decide +kernel
theorem zd70_52 : decode zxm70.2.1 52 = .ok (.iconst 0, 1) := by decide +kernel
theorem zd70_53 : decode zxm70.2.1 53 = .ok (.invokevirtual 76, 3) := by decide +kernel
theorem zd70_56 : decode zxm70.2.1 56 = .ok (.istore_n 2, 1) := by decide +kernel
theorem zd70_57 : decode zxm70.2.1 57 = .ok (.aload_n 0, 1) := by decide +kernel
theorem zd70_58 : decode zxm70.2.1 58 = .ok (.iload_n 1, 1) := by decide +kernel
theorem zd70_59 : decode zxm70.2.1 59 = .ok (.invokevirtual 82, 3) := by decide +kernel
theorem zd70_62 : decode zxm70.2.1 62 = .ok (.aload_n 0, 1) := by decide +kernel
theorem zd70_63 : decode zxm70.2.1 63 = .ok (.getfield 25, 3) := by decide +kernel
theorem zd70_66 : decode zxm70.2.1 66 = .ok (.iload_n 2, 1) := by decide +kernel
theorem zd70_67 : decode zxm70.2.1 67 = .ok (.invokevirtual 79, 3) := by decide +kernel
theorem zd70_70 : decode zxm70.2.1 70 = .ok (.goto (-65), 3) := by decide +kernel
theorem zd70_73 : decode zxm70.2.1 73 = .ok (.return_, 1) := by decide +kernel
theorem zh70  {k : Nat} (hP : zr_OK zxm71 (10 + 3 * k) k) : zr_OK zxm70 (11 + 3 * k) k := fun a len fl st o text kinds vals Fr Gr => zn_meth (K := zkR) (FT := z_FT) (MT := z_MT) (n := 2) zxp70 (z_ks3 _ (fun _ h => List.mem_cons_of_mem _ h) _ _ _ _ (fun j r h _ => by cases h)) (fun _ _ => zs_KX_p) (by decide +kernel) (fun va F G h => by obtain ⟨rfl, _⟩ := h; rfl) rfl fun good va F G hB hret hvret hP => by
  obtain ⟨rfl, rfl, rfl, hs, ho1, ho2, ho3⟩ := hP
  obtain ⟨⟨b1, b2, b3, b4⟩, b5⟩ := hs
  have hs : zr_s a len st kinds vals := ⟨⟨b1, b2, b3, b4⟩, b5⟩
  have key : ∀ (n : Nat) (x : zNV) (a1 fl1 st1 : Int) (kinds1 vals1 : Int → Int), zr_s a1 len st1 kinds1 vals1 → zr_r a st kinds a1 st1 kinds1 → len - a1 < n → good 5 [.inr 0, .inl o, x] [] (a1 :: len :: fl1 :: st1 :: Fr) (text :: kinds1 :: vals1 :: Gr) := by
    intro n
    induction n with
    | zero =>
      intro x a1 fl1 st1 kinds1 vals1 s1 r1 hn
      have := s1.1
      exfalso; omega
    | succ n ih =>
      intro x a1 fl1 st1 kinds1 vals1 s1 r1 hn
      obtain ⟨c1, c2, c3, c4⟩ := s1.1
      refine zn_ald hB zd70_5 rfl rfl rfl ?_
      refine zn_getf hB zd70_6 rfl rfl (fun q6 r6 => ?_)
      refine zn_zne hB zd70_9 rfl (fun h9 => ?_) (fun h9 => ?_)
      · exact hvret _ _ _ _ zd70_73 trivial ⟨rfl, _, _, _, _, _, rfl, rfl, s1, r1⟩
      · refine zn_ald hB zd70_12 rfl rfl rfl ?_
        refine zn_getf hB zd70_13 rfl rfl (fun q13 r13 => ?_)
        refine zn_ald hB zd70_16 rfl rfl rfl ?_
        refine zn_getf hB zd70_17 rfl rfl (fun q17 r17 => ?_)
        refine zn_cge hB zd70_20 rfl (fun h20 => ?_) (fun h20 => ?_)
        · exact hvret _ _ _ _ zd70_73 trivial ⟨rfl, _, _, _, _, _, rfl, rfl, s1, r1⟩
        · refine zn_ald hB zd70_23 rfl rfl rfl ?_
          refine zn_getr hB zd70_24 rfl ?_
          refine zn_ald hB zd70_27 rfl rfl rfl ?_
          refine zn_getf hB zd70_28 rfl rfl (fun q28 r28 => ?_)
          refine zn_iald hB zd70_31 rfl rfl (by omega) (by omega) (fun q31 r31 => ?_)
          refine zn_con hB zd70_32 rfl ?_
          refine zn_cne hB zd70_34 rfl (fun h34 => ?_) (fun h34 => ?_)
          · exact hvret _ _ _ _ zd70_73 trivial ⟨rfl, _, _, _, _, _, rfl, rfl, s1, r1⟩
          · have hz := zr_add (a := a1 + 1) (a0 := a1) (kd := 4) (v := 0) (zr_s_on s1 (a' := a1 + 1) (by omega) (by omega)) (by omega) (by omega) (by omega) (Int.le_refl _)
            refine zn_ald hB zd70_37 rfl rfl rfl ?_
            refine zn_dup hB zd70_38 ?_
            refine zn_getf hB zd70_39 rfl rfl (fun q39 r39 => ?_)
            refine zn_con hB zd70_42 rfl ?_
            refine zn_iadd hB zd70_43 (by omega) (by omega) ?_
            refine zn_putf hB zd70_44 rfl rfl (fun h => by cases h) rfl ?_
            refine zn_ald hB zd70_47 rfl rfl rfl ?_
            refine zn_getr hB zd70_48 rfl ?_
            refine zn_con hB zd70_51 rfl ?_
            refine zn_con hB zd70_52 rfl ?_
            refine zn_iv2 hB (zh49 (st := st1) (kinds := kinds1) (vals := vals1)) zd70_53 zxt49 (zr_hc rfl rfl rfl (show 0 + 1 ≤ 11 + 3 * k by omega) (show 8 + (3 + 11) + 60 * (0) ≤ 60 * (11 + 3 * k) by omega)) ⟨rfl, rfl, rfl, by omega, by omega⟩ (fun r53 F53 G53 hq53 => ?_)
            obtain ⟨rfl, rfl, rfl⟩ := hq53
            refine zn_ist hB zd70_56 rfl rfl rfl ?_
            refine zn_ald hB zd70_57 rfl rfl rfl ?_
            refine zn_ild hB zd70_58 rfl rfl ?_
            refine zn_iv1 hB (hP (a1 + 1) len (fl1) (st1 + 1) (o) text (zn_up kinds1 st1 4) (zn_up vals1 st1 0) _ _) zd70_59 zxt71 (zr_hc rfl rfl rfl (show 10 + 3 * k + 1 ≤ 11 + 3 * k by omega) (show 8 + (3 + 11) + 60 * (10 + 3 * k) ≤ 60 * (11 + 3 * k) by omega)) ⟨rfl, rfl, rfl, hz.1, by omega, by omega, by omega⟩ (fun r59 F59 G59 hq59 => ?_)
            obtain ⟨rfl, a2, fl2, st2, kinds2, vals2, rfl, rfl, s2, r2⟩ := hq59
            have e2 := s2.1
            have e3 := r2.2.2.2 st1 (by omega)
            rw [zn_up_s] at e3
            refine zn_ald hB zd70_62 rfl rfl rfl ?_
            refine zn_getr hB zd70_63 rfl ?_
            refine zn_ild hB zd70_66 rfl rfl ?_
            refine zn_iv1 hB (zh73 (st := st2) (vals := vals2)) zd70_67 zxt73 (zr_hc rfl rfl rfl (show 0 + 1 ≤ 11 + 3 * k by omega) (show 8 + (2 + 11) + 60 * (0) ≤ 60 * (11 + 3 * k) by omega)) ⟨rfl, rfl, rfl, by omega, by omega⟩ (fun r67 F67 G67 hq67 => ?_)
            obtain ⟨rfl, rfl, rfl⟩ := hq67
            refine zn_goto hB zd70_70 rfl ?_
            exact ih _ _ _ _ _ _ (zr_landed (j := st1) s2 (by omega)) (zr_r_tr r1 (zr_r_tr hz.2 r2)) (by have := r2.1; omega)
  refine zn_ald hB zd70_0 rfl rfl rfl ?_
  refine zn_ild hB zd70_1 rfl rfl ?_
  refine zn_iv1 hB (hP (a) len (fl) (st) (o) text (kinds) (vals) _ _) zd70_2 zxt71 (zr_hc rfl rfl rfl (show 10 + 3 * k + 1 ≤ 11 + 3 * k by omega) (show 8 + (3 + 11) + 60 * (10 + 3 * k) ≤ 60 * (11 + 3 * k) by omega)) ⟨rfl, rfl, rfl, hs, by omega, by omega, by omega⟩ (fun r2 F2 G2 hq2 => ?_)
  obtain ⟨rfl, a2, fl2, st2, kinds2, vals2, rfl, rfl, s2, r2⟩ := hq2
  exact key ((len - a2).toNat + 1) _ _ _ _ _ _ s2 r2 (by omega)
theorem zd69_0 : decode zxm69.2.1 0 = .ok (.aload_n 0, 1) := by decide +kernel
theorem zd69_1 : decode zxm69.2.1 1 = .ok (.iload_n 1, 1) := by decide +kernel
theorem zd69_2 : decode zxm69.2.1 2 = .ok (.invokevirtual 73, 3) := by decide +kernel
theorem zd69_5 : decode zxm69.2.1 5 = .ok (.aload_n 0, 1) := by decide +kernel
theorem zd69_6 : decode zxm69.2.1 6 = .ok (.getfield 18, 3) := by decide +kernel
theorem zd69_9 : decode zxm69.2.1 9 = .ok (.ifCond .ne 64, 3) := by decide +kernel
theorem zd69_12 : decode zxm69.2.1 12 = .ok (.aload_n 0, 1) := by decide +kernel
theorem zd69_13 : decode zxm69.2.1 13 = .ok (.getfield 15, 3) := by decide +kernel
theorem zd69_16 : decode zxm69.2.1 16 = .ok (.aload_n 0, 1) := by decide +kernel
theorem zd69_17 : decode zxm69.2.1 17 = .ok (.getfield 9, 3) := by decide +kernel
theorem zd69_20 : decode zxm69.2.1 20 = .ok (.if_icmp .ge 53, 3) := by decide +kernel
theorem zd69_23 : decode zxm69.2.1 23 = .ok (.aload_n 0, 1) := by decide +kernel
theorem zd69_24 : decode zxm69.2.1 24 = .ok (.getfield 21, 3) := by decide +kernel
theorem zd69_27 : decode zxm69.2.1 27 = .ok (.aload_n 0, 1) := by decide +kernel
theorem zd69_28 : decode zxm69.2.1 28 = .ok (.getfield 15, 3) := by decide +kernel
theorem zd69_31 : decode zxm69.2.1 31 = .ok (.iaload, 1) := by decide +kernel
theorem zd69_32 : decode zxm69.2.1 32 = .ok (.bipush 124, 2) := by decide +kernel
theorem zd69_34 : decode zxm69.2.1 34 = .ok (.if_icmp .ne 39, 3) := by decide +kernel
theorem zd69_37 : decode zxm69.2.1 37 = .ok (.aload_n 0, 1) := by decide +kernel
theorem zd69_38 : decode zxm69.2.1 38 = .ok (.dup, 1) := by decide +kernel
theorem zd69_39 : decode zxm69.2.1 39 = .ok (.getfield 15, 3) := by decide +kernel
theorem zd69_42 : decode zxm69.2.1 42 = .ok (.iconst 1, 1) := by decide +kernel
theorem zd69_43 : decode zxm69.2.1 43 = .ok (.iadd, 1) := by decide +kernel
theorem zd69_44 : decode zxm69.2.1 44 = .ok (.putfield 15, 3) := by decide +kernel
theorem zd69_47 : decode zxm69.2.1 47 = .ok (.aload_n 0, 1) := by decide +kernel
theorem zd69_48 : decode zxm69.2.1 48 = .ok (.getfield 25, 3) := by decide +kernel
theorem zd69_51 : decode zxm69.2.1 51 = .ok (.iconst 3, 1) := by decide +kernel
theorem zd69_52 : decode zxm69.2.1 52 = .ok (.iconst 0, 1) := by decide +kernel
theorem zd69_53 : decode zxm69.2.1 53 = .ok (.invokevirtual 76, 3) := by decide +kernel
theorem zd69_56 : decode zxm69.2.1 56 = .ok (.istore_n 2, 1) := by decide +kernel
theorem zd69_57 : decode zxm69.2.1 57 = .ok (.aload_n 0, 1) := by decide +kernel
theorem zd69_58 : decode zxm69.2.1 58 = .ok (.iload_n 1, 1) := by decide +kernel
theorem zd69_59 : decode zxm69.2.1 59 = .ok (.invokevirtual 73, 3) := by decide +kernel
theorem zd69_62 : decode zxm69.2.1 62 = .ok (.aload_n 0, 1) := by decide +kernel
theorem zd69_63 : decode zxm69.2.1 63 = .ok (.getfield 25, 3) := by decide +kernel
theorem zd69_66 : decode zxm69.2.1 66 = .ok (.iload_n 2, 1) := by decide +kernel
theorem zd69_67 : decode zxm69.2.1 67 = .ok (.invokevirtual 79, 3) := by decide +kernel
theorem zd69_70 : decode zxm69.2.1 70 = .ok (.goto (-65), 3) := by decide +kernel
theorem zd69_73 : decode zxm69.2.1 73 = .ok (.return_, 1) := by decide +kernel
theorem zh69  {k : Nat} (hQ : zr_OK zxm70 (11 + 3 * k) k) : zr_OK zxm69 (12 + 3 * k) k := fun a len fl st o text kinds vals Fr Gr => zn_meth (K := zkR) (FT := z_FT) (MT := z_MT) (n := 2) zxp69 (z_ks3 _ (fun _ h => List.mem_cons_of_mem _ h) _ _ _ _ (fun j r h _ => by cases h)) (fun _ _ => zs_KX_p) (by decide +kernel) (fun va F G h => by obtain ⟨rfl, _⟩ := h; rfl) rfl fun good va F G hB hret hvret hP => by
  obtain ⟨rfl, rfl, rfl, hs, ho1, ho2, ho3⟩ := hP
  obtain ⟨⟨b1, b2, b3, b4⟩, b5⟩ := hs
  have hs : zr_s a len st kinds vals := ⟨⟨b1, b2, b3, b4⟩, b5⟩
  have key : ∀ (n : Nat) (x : zNV) (a1 fl1 st1 : Int) (kinds1 vals1 : Int → Int), zr_s a1 len st1 kinds1 vals1 → zr_r a st kinds a1 st1 kinds1 → len - a1 < n → good 5 [.inr 0, .inl o, x] [] (a1 :: len :: fl1 :: st1 :: Fr) (text :: kinds1 :: vals1 :: Gr) := by
    intro n
    induction n with
    | zero =>
      intro x a1 fl1 st1 kinds1 vals1 s1 r1 hn
      have := s1.1
      exfalso; omega
    | succ n ih =>
      intro x a1 fl1 st1 kinds1 vals1 s1 r1 hn
      obtain ⟨c1, c2, c3, c4⟩ := s1.1
      refine zn_ald hB zd69_5 rfl rfl rfl ?_
      refine zn_getf hB zd69_6 rfl rfl (fun q6 r6 => ?_)
      refine zn_zne hB zd69_9 rfl (fun h9 => ?_) (fun h9 => ?_)
      · exact hvret _ _ _ _ zd69_73 trivial ⟨rfl, _, _, _, _, _, rfl, rfl, s1, r1⟩
      · refine zn_ald hB zd69_12 rfl rfl rfl ?_
        refine zn_getf hB zd69_13 rfl rfl (fun q13 r13 => ?_)
        refine zn_ald hB zd69_16 rfl rfl rfl ?_
        refine zn_getf hB zd69_17 rfl rfl (fun q17 r17 => ?_)
        refine zn_cge hB zd69_20 rfl (fun h20 => ?_) (fun h20 => ?_)
        · exact hvret _ _ _ _ zd69_73 trivial ⟨rfl, _, _, _, _, _, rfl, rfl, s1, r1⟩
        · refine zn_ald hB zd69_23 rfl rfl rfl ?_
          refine zn_getr hB zd69_24 rfl ?_
          refine zn_ald hB zd69_27 rfl rfl rfl ?_
          refine zn_getf hB zd69_28 rfl rfl (fun q28 r28 => ?_)
          refine zn_iald hB zd69_31 rfl rfl (by omega) (by omega) (fun q31 r31 => ?_)
          refine zn_con hB zd69_32 rfl ?_
          refine zn_cne hB zd69_34 rfl (fun h34 => ?_) (fun h34 => ?_)
          · exact hvret _ _ _ _ zd69_73 trivial ⟨rfl, _, _, _, _, _, rfl, rfl, s1, r1⟩
          · have hz := zr_add (a := a1 + 1) (a0 := a1) (kd := 3) (v := 0) (zr_s_on s1 (a' := a1 + 1) (by omega) (by omega)) (by omega) (by omega) (by omega) (Int.le_refl _)
            refine zn_ald hB zd69_37 rfl rfl rfl ?_
            refine zn_dup hB zd69_38 ?_
            refine zn_getf hB zd69_39 rfl rfl (fun q39 r39 => ?_)
            refine zn_con hB zd69_42 rfl ?_
            refine zn_iadd hB zd69_43 (by omega) (by omega) ?_
            refine zn_putf hB zd69_44 rfl rfl (fun h => by cases h) rfl ?_
            refine zn_ald hB zd69_47 rfl rfl rfl ?_
            refine zn_getr hB zd69_48 rfl ?_
            refine zn_con hB zd69_51 rfl ?_
            refine zn_con hB zd69_52 rfl ?_
            refine zn_iv2 hB (zh49 (st := st1) (kinds := kinds1) (vals := vals1)) zd69_53 zxt49 (zr_hc rfl rfl rfl (show 0 + 1 ≤ 12 + 3 * k by omega) (show 8 + (3 + 11) + 60 * (0) ≤ 60 * (12 + 3 * k) by omega)) ⟨rfl, rfl, rfl, by omega, by omega⟩ (fun r53 F53 G53 hq53 => ?_)
            obtain ⟨rfl, rfl, rfl⟩ := hq53
            refine zn_ist hB zd69_56 rfl rfl rfl ?_
            refine zn_ald hB zd69_57 rfl rfl rfl ?_
            refine zn_ild hB zd69_58 rfl rfl ?_
            refine zn_iv1 hB (hQ (a1 + 1) len (fl1) (st1 + 1) (o) text (zn_up kinds1 st1 3) (zn_up vals1 st1 0) _ _) zd69_59 zxt70 (zr_hc rfl rfl rfl (show 11 + 3 * k + 1 ≤ 12 + 3 * k by omega) (show 8 + (3 + 11) + 60 * (11 + 3 * k) ≤ 60 * (12 + 3 * k) by omega)) ⟨rfl, rfl, rfl, hz.1, by omega, by omega, by omega⟩ (fun r59 F59 G59 hq59 => ?_)
            obtain ⟨rfl, a2, fl2, st2, kinds2, vals2, rfl, rfl, s2, r2⟩ := hq59
            have e2 := s2.1
            have e3 := r2.2.2.2 st1 (by omega)
            rw [zn_up_s] at e3
            refine zn_ald hB zd69_62 rfl rfl rfl ?_
            refine zn_getr hB zd69_63 rfl ?_
            refine zn_ild hB zd69_66 rfl rfl ?_
            refine zn_iv1 hB (zh73 (st := st2) (vals := vals2)) zd69_67 zxt73 (zr_hc rfl rfl rfl (show 0 + 1 ≤ 12 + 3 * k by omega) (show 8 + (2 + 11) + 60 * (0) ≤ 60 * (12 + 3 * k) by omega)) ⟨rfl, rfl, rfl, by omega, by omega⟩ (fun r67 F67 G67 hq67 => ?_)
            obtain ⟨rfl, rfl, rfl⟩ := hq67
            refine zn_goto hB zd69_70 rfl ?_
            exact ih _ _ _ _ _ _ (zr_landed (j := st1) s2 (by omega)) (zr_r_tr r1 (zr_r_tr hz.2 r2)) (by have := r2.1; omega)
  refine zn_ald hB zd69_0 rfl rfl rfl ?_
  refine zn_ild hB zd69_1 rfl rfl ?_
  refine zn_iv1 hB (hQ (a) len (fl) (st) (o) text (kinds) (vals) _ _) zd69_2 zxt70 (zr_hc rfl rfl rfl (show 11 + 3 * k + 1 ≤ 12 + 3 * k by omega) (show 8 + (3 + 11) + 60 * (11 + 3 * k) ≤ 60 * (12 + 3 * k) by omega)) ⟨rfl, rfl, rfl, hs, by omega, by omega, by omega⟩ (fun r2 F2 G2 hq2 => ?_)
  obtain ⟨rfl, a2, fl2, st2, kinds2, vals2, rfl, rfl, s2, r2⟩ := hq2
  exact key ((len - a2).toNat + 1) _ _ _ _ _ _ s2 r2 (by omega)
theorem zr_conds (hix : zr_ix) : ∀ k : Nat, zr_OK zxm71 (10 + 3 * k) k ∧ zr_OK zxm69 (12 + 3 * k) k := by
  intro k
  induction k with
  | zero =>
    have h1 := zh71 (k := 0) (zh72 (zr_sums hix 0).2.2) (fun k' h => absurd h (by omega)) (fun k' h => absurd h (by omega))
    exact ⟨h1, zh69 (zh70 h1)⟩
  | succ k ih =>
    have h1 := zh71 (k := k + 1) (zh72 (zr_sums hix (k + 1)).2.2) (fun k' h => by cases h; exact ih.1) (fun k' h => by cases h; exact ih.2)
    exact ⟨h1, zh69 (zh70 h1)⟩
end ZLAWR2
