/-! The reading of laws by the class: a clause; the rest of reading. -/
section ZLAWR3
variable {a len fl st cs t1 t2 t3 t4 n : Int} {text kinds vals ck af cf ce : Int → Int} {Fr : List Int} {Gr : List (Int → Int)}
theorem zd39_0 : decode zxm39.2.1 0 = .ok (.aload_n 0, 1) := by decide +kernel
theorem zd39_1 : decode zxm39.2.1 1 = .ok (.getfield 18, 3) := by decide +kernel
theorem zd39_4 : decode zxm39.2.1 4 = .ok (.ifCond .eq 4, 3) := by decide +kernel
theorem zd39_7 : decode zxm39.2.1 7 = .ok (.return_, 1) := by decide +kernel
theorem zd39_8 : decode zxm39.2.1 8 = .ok (.aload_n 0, 1) := by decide +kernel
theorem zd39_9 : decode zxm39.2.1 9 = .ok (.invokevirtual 53, 3) := by decide +kernel
theorem zd39_12 : decode zxm39.2.1 12 = .ok (.istore_n 1, 1) := by decide +kernel
theorem zd39_13 : decode zxm39.2.1 13 = .ok (.iload_n 1, 1) := by decide +kernel
theorem zd39_14 : decode zxm39.2.1 14 = .ok (.bipush 119, 2) := by decide +kernel
theorem zd39_16 : decode zxm39.2.1 16 = .ok (.if_icmp .eq 15, 3) := by decide +kernel
theorem zd39_19 : decode zxm39.2.1 19 = .ok (.iload_n 1, 1) := by decide +kernel
theorem zd39_20 : decode zxm39.2.1 20 = .ok (.bipush 103, 2) := by decide +kernel
theorem zd39_22 : decode zxm39.2.1 22 = .ok (.if_icmp .eq 9, 3) := by decide +kernel
theorem zd39_25 : decode zxm39.2.1 25 = .ok (.iload_n 1, 1) := by decide +kernel
theorem zd39_26 : decode zxm39.2.1 26 = .ok (.bipush 113, 2) := by decide +kernel
theorem zd39_28 : decode zxm39.2.1 28 = .ok (.if_icmp .ne 7, 3) := by decide +kernel
theorem zd39_31 : decode zxm39.2.1 31 = .ok (.iconst 1, 1) := by decide +kernel
theorem zd39_32 : decode zxm39.2.1 32 = .ok (.goto 4, 3) := by decide +kernel
theorem zd39_35 : decode zxm39.2.1 35 = .ok (.iconst 0, 1) := by decide +kernel
theorem zd39_36 : decode zxm39.2.1 36 = .ok (.istore_n 2, 1) := by decide +kernel
theorem zd39_37 : decode zxm39.2.1 37 = .ok (.iload_n 2, 1) := by decide +kernel
theorem zd39_38 : decode zxm39.2.1 38 = .ok (.ifCond .ne 21, 3) := by decide +kernel
theorem zd39_41 : decode zxm39.2.1 41 = .ok (.iload_n 1, 1) := by decide +kernel
theorem zd39_42 : decode zxm39.2.1 42 = .ok (.bipush 118, 2) := by decide +kernel
theorem zd39_44 : decode zxm39.2.1 44 = .ok (.if_icmp .eq 15, 3) := by decide +kernel
theorem zd39_47 : decode zxm39.2.1 47 = .ok (.iload_n 1, 1) := by decide +kernel
theorem zd39_48 : decode zxm39.2.1 48 = .ok (.bipush 106, 2) := by decide +kernel
theorem zd39_50 : decode zxm39.2.1 50 = .ok (.if_icmp .eq 9, 3) := by decide +kernel
theorem zd39_53 : decode zxm39.2.1 53 = .ok (.aload_n 0, 1) := by decide +kernel
theorem zd39_54 : decode zxm39.2.1 54 = .ok (.iconst 1, 1) := by decide +kernel
theorem zd39_55 : decode zxm39.2.1 55 = .ok (.invokevirtual 57, 3) := by decide +kernel
theorem zd39_58 : decode zxm39.2.1 58 = .ok (.return_, 1) := by decide +kernel
theorem zd39_59 : decode zxm39.2.1 59 = .ok (.aload_n 0, 1) := by decide +kernel
theorem zd39_60 : decode zxm39.2.1 60 = .ok (.getfield 25, 3) := by decide +kernel
theorem zd39_63 : decode zxm39.2.1 63 = .ok (.getfield 47, 3) := by decide +kernel
theorem zd39_66 : decode zxm39.2.1 66 = .ok (.bipush 14, 2) := by decide +kernel
theorem zd39_68 : decode zxm39.2.1 68 = .ok (.if_icmp .ne 9, 3) := by decide +kernel
theorem zd39_71 : decode zxm39.2.1 71 = .ok (.aload_n 0, 1) := by decide +kernel
theorem zd39_72 : decode zxm39.2.1 72 = .ok (.iconst 4, 1) := by decide +kernel
theorem zd39_73 : decode zxm39.2.1 73 = .ok (.invokevirtual 57, 3) := by decide +kernel
theorem zd39_76 : decode zxm39.2.1 76 = .ok (.return_, 1) := by decide +kernel
theorem zd39_77 : decode zxm39.2.1 77 = .ok (.aload_n 0, 1) := by decide +kernel
theorem zd39_78 : decode zxm39.2.1 78 = .ok (.dup, 1) := by decide +kernel
theorem zd39_79 : decode zxm39.2.1 79 = .ok (.getfield 15, 3) := by decide +kernel
theorem zd39_82 : decode zxm39.2.1 82 = .ok (.iconst 1, 1) := by decide +kernel
theorem zd39_83 : decode zxm39.2.1 83 = .ok (.iadd, 1) := by decide +kernel
theorem zd39_84 : decode zxm39.2.1 84 = .ok (.putfield 15, 3) := by decide +kernel
theorem zd39_87 : decode zxm39.2.1 87 = .ok (.aload_n 0, 1) := by decide +kernel
theorem zd39_88 : decode zxm39.2.1 88 = .ok (.getfield 25, 3) := by decide +kernel
theorem zd39_91 : decode zxm39.2.1 91 = .ok (.getfield 60, 3) := by decide +kernel
theorem zd39_94 : decode zxm39.2.1 94 = .ok (.istore_n 3, 1) := by decide +kernel
theorem zd39_95 : decode zxm39.2.1 95 = .ok (.iload_n 2, 1) := by decide +kernel
theorem zd39_96 : decode zxm39.2.1 96 = .ok (.ifCond .eq 8, 3) := by decide +kernel
theorem zd39_99 : decode zxm39.2.1 99 = .ok (.aload_n 0, 1) := by decide +kernel
theorem zd39_100 : decode zxm39.2.1 100 = .ok (.iconst 0, 1) := by decide +kernel
theorem zd39_101 : decode zxm39.2.1 101 = .ok (.invokevirtual 63, 3) := by decide +kernel
theorem zd39_104 : decode zxm39.2.1 104 = .ok (.aload_n 0, 1) := by decide +kernel
theorem zd39_105 : decode zxm39.2.1 105 = .ok (.getfield 25, 3) := by decide +kernel
theorem zd39_108 : decode zxm39.2.1 108 = .ok (.getfield 60, 3) := by decide +kernel
theorem zd39_111 : decode zxm39.2.1 111 = .ok (.istore 4, 2) := by decide +kernel
theorem zd39_113 : decode zxm39.2.1 113 = .ok (.aload_n 0, 1) := by decide +kernel
theorem zd39_114 : decode zxm39.2.1 114 = .ok (.bipush 40, 2) := by decide +kernel
theorem zd39_116 : decode zxm39.2.1 116 = .ok (.invokevirtual 43, 3) := by decide +kernel
theorem zd39_119 : decode zxm39.2.1 119 = .ok (.aload_n 0, 1) := by decide +kernel
theorem zd39_120 : decode zxm39.2.1 120 = .ok (.iconst 1, 1) := by decide +kernel
theorem zd39_121 : decode zxm39.2.1 121 = .ok (.invokevirtual 66, 3) := by decide +kernel
theorem zd39_124 : decode zxm39.2.1 124 = .ok (.aload_n 0, 1) := by decide +kernel
theorem zd39_125 : decode zxm39.2.1 125 = .ok (.bipush 41, 2) := by decide +kernel
theorem zd39_127 : decode zxm39.2.1 127 = .ok (.invokevirtual 43, 3) := by decide +kernel
theorem zd39_130 : decode zxm39.2.1 130 = .ok (.aload_n 0, 1) := by decide +kernel
theorem zd39_131 : decode zxm39.2.1 131 = .ok (.getfield 25, 3) := by decide +kernel
theorem zd39_134 : decode zxm39.2.1 134 = .ok (.iload_n 1, 1) := by decide +kernel
theorem zd39_135 : decode zxm39.2.1 135 = .ok (.iload_n 3, 1) := by decide +kernel
theorem zd39_136 : decode zxm39.2.1 136 = .ok (.iload 4, 2) := by decide +kernel
theorem zd39_138 : decode zxm39.2.1 138 = .ok (.invokevirtual 69, 3) := by decide +kernel
theorem zd39_141 : decode zxm39.2.1 141 = .ok (.return_, 1) := by decide +kernel
theorem zh39 (hix : zr_ix) : zn_OK z_TB z_cl z_KX zyL zxm39 (28, 1680) (fun va F G => va = [.inr 0] ∧ F = a :: len :: fl :: st :: cs :: t1 :: t2 :: t3 :: t4 :: Fr ∧ G = text :: kinds :: vals :: ck :: af :: cf :: ce :: Gr ∧ zr_s a len st kinds vals ∧ zr_T cs t1 t2 t3 t4 ∧ zr_C af cf ce) (fun va F G r F' G' => r = none ∧ ∃ a' fl' st' cs' t1' t2' t3' t4' kinds' vals' ck' af' cf' ce', F' = a' :: len :: fl' :: st' :: cs' :: t1' :: t2' :: t3' :: t4' :: Fr ∧ G' = text :: kinds' :: vals' :: ck' :: af' :: cf' :: ce' :: Gr ∧ zr_s a' len st' kinds' vals' ∧ zr_T cs' t1' t2' t3' t4' ∧ zr_C af' cf' ce') := zn_meth (K := zkR) (FT := z_FT) (MT := z_MT) (n := 1) zxp39 (z_ks3 _ (fun _ h => List.mem_cons_of_mem _ h) _ _ _ _ (fun j r h _ => by cases h)) (fun _ _ => zs_KX_p) (by decide +kernel) (fun va F G h => by obtain ⟨rfl, _⟩ := h; rfl) rfl fun good va F G hB hret hvret hP => by
  obtain ⟨rfl, rfl, rfl, hs, hT, hC⟩ := hP
  obtain ⟨⟨b1, b2, b3, b4⟩, b5⟩ := hs
  have hs : zr_s a len st kinds vals := ⟨⟨b1, b2, b3, b4⟩, b5⟩
  have hT2 := hT
  obtain ⟨⟨u1, u2⟩, hT3⟩ := hT2
  have tail : ∀ (am x0 : Int) (a1 fl1 st1 : Int) (kinds1 vals1 : Int → Int), zr_s a1 len st1 kinds1 vals1 → st ≤ st1 → good 104 [.inr 0, .inl x0, .inl am, .inl st, .inr 1000] [] (a1 :: len :: fl1 :: st1 :: cs :: t1 :: t2 :: t3 :: t4 :: Fr) (text :: kinds1 :: vals1 :: ck :: af :: cf :: ce :: Gr) := by
    intro am x0 a1 fl1 st1 kinds1 vals1 s1 hst
    obtain ⟨c1, c2, c3, c4⟩ := s1.1
    refine zn_ald hB zd39_104 rfl rfl rfl ?_
    refine zn_getr hB zd39_105 rfl ?_
    refine zn_getf hB zd39_108 rfl rfl (fun q108 r108 => ?_)
    refine zn_ist hB zd39_111 rfl rfl rfl ?_
    refine zn_ald hB zd39_113 rfl rfl rfl ?_
    refine zn_con hB zd39_114 rfl ?_
    refine zn_iv1 hB (zh46 (a := a1) (len := len)) zd39_116 zxt46 rfl ⟨rfl, rfl, rfl, by omega, by omega, by omega, by omega⟩ (fun r116 F116 G116 hq116 => ?_)
    obtain ⟨rfl, a3, fl3, rfl, rfl, k1, k2⟩ := hq116
    refine zn_ald hB zd39_119 rfl rfl rfl ?_
    refine zn_con hB zd39_120 rfl ?_
    refine zn_iv1 hB ((zr_conds hix 5).2 a3 len fl3 st1 1 text kinds1 vals1 _ _) zd39_121 zxt69 rfl ⟨rfl, rfl, rfl, zr_s_on s1 k1 k2, by omega, by omega, by omega⟩ (fun r121 F121 G121 hq121 => ?_)
    obtain ⟨rfl, a4, fl4, st4, kinds4, vals4, rfl, rfl, s4, r4⟩ := hq121
    obtain ⟨f1, f2, f3, f4⟩ := s4.1
    refine zn_ald hB zd39_124 rfl rfl rfl ?_
    refine zn_con hB zd39_125 rfl ?_
    refine zn_iv1 hB (zh46 (a := a4) (len := len)) zd39_127 zxt46 rfl ⟨rfl, rfl, rfl, by omega, by omega, by omega, by omega⟩ (fun r127 F127 G127 hq127 => ?_)
    obtain ⟨rfl, a5, fl5, rfl, rfl, k3, k4⟩ := hq127
    refine zn_ald hB zd39_130 rfl rfl rfl ?_
    refine zn_getr hB zd39_131 rfl ?_
    refine zn_ild hB zd39_134 rfl rfl ?_
    refine zn_ild hB zd39_135 rfl rfl ?_
    refine zn_ild hB zd39_136 rfl rfl ?_
    refine zn_iv3 hB (zh74 (st := st4) (cs := cs) (af := af)) zd39_138 zxt74 rfl ⟨rfl, rfl, rfl, by omega, by omega, by omega, by omega, by omega, by omega, hT, hC⟩ (fun r138 F138 G138 hq138 => ?_)
    obtain ⟨rfl, cs', t1', t2', t3', t4', ck', af', cf', ce', rfl, rfl, hT9, hC9⟩ := hq138
    exact hvret _ _ _ _ zd39_141 trivial ⟨rfl, _, _, _, _, _, _, _, _, _, _, _, _, _, _, rfl, rfl, zr_s_on s4 k3 k4, hT9, hC9⟩
  have body : ∀ (am x0 : Int), a < len → good 59 [.inr 0, .inl x0, .inl am, .inr 1000, .inr 1000] [] (a :: len :: fl :: st :: cs :: t1 :: t2 :: t3 :: t4 :: Fr) (text :: kinds :: vals :: ck :: af :: cf :: ce :: Gr) := by
    intro am x0 hlt
    refine zn_ald hB zd39_59 rfl rfl rfl ?_
    refine zn_getr hB zd39_60 rfl ?_
    refine zn_getf hB zd39_63 rfl rfl (fun q63 r63 => ?_)
    refine zn_con hB zd39_66 rfl ?_
    refine zn_cne hB zd39_68 rfl (fun h68 => ?_) (fun h68 => ?_)
    · refine zn_ald hB zd39_77 rfl rfl rfl ?_
      refine zn_dup hB zd39_78 ?_
      refine zn_getf hB zd39_79 rfl rfl (fun q79 r79 => ?_)
      refine zn_con hB zd39_82 rfl ?_
      refine zn_iadd hB zd39_83 (by omega) (by omega) ?_
      refine zn_putf hB zd39_84 rfl rfl (fun h => by cases h) rfl ?_
      refine zn_ald hB zd39_87 rfl rfl rfl ?_
      refine zn_getr hB zd39_88 rfl ?_
      refine zn_getf hB zd39_91 rfl rfl (fun q91 r91 => ?_)
      refine zn_ist hB zd39_94 rfl rfl rfl ?_
      refine zn_ild hB zd39_95 rfl rfl ?_
      refine zn_zeq hB zd39_96 rfl (fun h96 => ?_) (fun h96 => ?_)
      · first | exact tail _ _ _ _ _ _ _ s1 r1.2.1 | exact tail _ _ _ _ _ _ _ (zr_s_on hs (a' := a + 1) (by omega) (by omega)) (Int.le_refl _)
      · refine zn_ald hB zd39_99 rfl rfl rfl ?_
        refine zn_con hB zd39_100 rfl ?_
        refine zn_iv1 hB ((zr_sums hix 6).2.2 (a + 1) len fl st 0 text kinds vals _ _) zd39_101 zxt43 rfl ⟨rfl, rfl, rfl, zr_s_on hs (by omega) (by omega), by omega, by omega, by omega⟩ (fun r101 F101 G101 hq101 => ?_)
        obtain ⟨rfl, a1, fl1, st1, kinds1, vals1, rfl, rfl, s1, r1⟩ := hq101
        first | exact tail _ _ _ _ _ _ _ s1 r1.2.1 | exact tail _ _ _ _ _ _ _ (zr_s_on hs (a' := a + 1) (by omega) (by omega)) (Int.le_refl _)
    · refine zn_ald hB zd39_71 rfl rfl rfl ?_
      refine zn_con hB zd39_72 rfl ?_
      refine zn_iv1 hB zh41 zd39_73 zxt41 rfl ⟨rfl, rfl⟩ (fun r73 F73 G73 hq73 => ?_)
      obtain ⟨rfl, fl1, rfl, rfl⟩ := hq73
      exact hvret _ _ _ _ zd39_76 trivial ⟨rfl, _, _, _, _, _, _, _, _, _, _, _, _, _, _, rfl, rfl, hs, hT, hC⟩
  refine zn_ald hB zd39_0 rfl rfl rfl ?_
  refine zn_getf hB zd39_1 rfl rfl (fun q1 r1 => ?_)
  refine zn_zeq hB zd39_4 rfl (fun h4 => ?_) (fun h4 => ?_)
  · refine zn_ald hB zd39_8 rfl rfl rfl ?_
    refine zn_iv0 hB (zh40 (a := a) (len := len) (text := text)) zd39_9 zxt40 rfl ⟨rfl, rfl, rfl, by omega⟩ (fun r9 F9 G9 hq9 => ?_)
    obtain ⟨rfl, rfl, rfl⟩ := hq9
    refine zn_ist hB zd39_12 rfl rfl rfl ?_
    refine zn_ild hB zd39_13 rfl rfl ?_
    refine zn_con hB zd39_14 rfl ?_
    refine zn_ceq hB zd39_16 rfl (fun h16 => ?_) (fun h16 => ?_)
    · refine zn_con hB zd39_31 rfl ?_
      refine zn_goto hB zd39_32 rfl ?_
      refine zn_ist hB zd39_36 rfl rfl rfl ?_
      refine zn_ild hB zd39_37 rfl rfl ?_
      refine zn_zne hB zd39_38 rfl (fun h38 => ?_) (fun h38 => ?_)
      · exact body _ _ (zr_p_lt (text := text) (by omega)).2
      · refine zn_ild hB zd39_41 rfl rfl ?_
        refine zn_con hB zd39_42 rfl ?_
        refine zn_ceq hB zd39_44 rfl (fun h44 => ?_) (fun h44 => ?_)
        · exact body _ _ (zr_p_lt (text := text) (by omega)).2
        · refine zn_ild hB zd39_47 rfl rfl ?_
          refine zn_con hB zd39_48 rfl ?_
          refine zn_ceq hB zd39_50 rfl (fun h50 => ?_) (fun h50 => ?_)
          · exact body _ _ (zr_p_lt (text := text) (by omega)).2
          · refine zn_ald hB zd39_53 rfl rfl rfl ?_
            refine zn_con hB zd39_54 rfl ?_
            refine zn_iv1 hB zh41 zd39_55 zxt41 rfl ⟨rfl, rfl⟩ (fun r55 F55 G55 hq55 => ?_)
            obtain ⟨rfl, fl1, rfl, rfl⟩ := hq55
            exact hvret _ _ _ _ zd39_58 trivial ⟨rfl, _, _, _, _, _, _, _, _, _, _, _, _, _, _, rfl, rfl, hs, hT, hC⟩
    · refine zn_ild hB zd39_19 rfl rfl ?_
      refine zn_con hB zd39_20 rfl ?_
      refine zn_ceq hB zd39_22 rfl (fun h22 => ?_) (fun h22 => ?_)
      · refine zn_con hB zd39_31 rfl ?_
        refine zn_goto hB zd39_32 rfl ?_
        refine zn_ist hB zd39_36 rfl rfl rfl ?_
        refine zn_ild hB zd39_37 rfl rfl ?_
        refine zn_zne hB zd39_38 rfl (fun h38 => ?_) (fun h38 => ?_)
        · exact body _ _ (zr_p_lt (text := text) (by omega)).2
        · refine zn_ild hB zd39_41 rfl rfl ?_
          refine zn_con hB zd39_42 rfl ?_
          refine zn_ceq hB zd39_44 rfl (fun h44 => ?_) (fun h44 => ?_)
          · exact body _ _ (zr_p_lt (text := text) (by omega)).2
          · refine zn_ild hB zd39_47 rfl rfl ?_
            refine zn_con hB zd39_48 rfl ?_
            refine zn_ceq hB zd39_50 rfl (fun h50 => ?_) (fun h50 => ?_)
            · exact body _ _ (zr_p_lt (text := text) (by omega)).2
            · refine zn_ald hB zd39_53 rfl rfl rfl ?_
              refine zn_con hB zd39_54 rfl ?_
              refine zn_iv1 hB zh41 zd39_55 zxt41 rfl ⟨rfl, rfl⟩ (fun r55 F55 G55 hq55 => ?_)
              obtain ⟨rfl, fl1, rfl, rfl⟩ := hq55
              exact hvret _ _ _ _ zd39_58 trivial ⟨rfl, _, _, _, _, _, _, _, _, _, _, _, _, _, _, rfl, rfl, hs, hT, hC⟩
      · refine zn_ild hB zd39_25 rfl rfl ?_
        refine zn_con hB zd39_26 rfl ?_
        refine zn_cne hB zd39_28 rfl (fun h28 => ?_) (fun h28 => ?_)
        · refine zn_con hB zd39_35 rfl ?_
          refine zn_ist hB zd39_36 rfl rfl rfl ?_
          refine zn_ild hB zd39_37 rfl rfl ?_
          refine zn_zne hB zd39_38 rfl (fun h38 => ?_) (fun h38 => ?_)
          · exact body _ _ (zr_p_lt (text := text) (by omega)).2
          · refine zn_ild hB zd39_41 rfl rfl ?_
            refine zn_con hB zd39_42 rfl ?_
            refine zn_ceq hB zd39_44 rfl (fun h44 => ?_) (fun h44 => ?_)
            · exact body _ _ (zr_p_lt (text := text) (by omega)).2
            · refine zn_ild hB zd39_47 rfl rfl ?_
              refine zn_con hB zd39_48 rfl ?_
              refine zn_ceq hB zd39_50 rfl (fun h50 => ?_) (fun h50 => ?_)
              · exact body _ _ (zr_p_lt (text := text) (by omega)).2
              · refine zn_ald hB zd39_53 rfl rfl rfl ?_
                refine zn_con hB zd39_54 rfl ?_
                refine zn_iv1 hB zh41 zd39_55 zxt41 rfl ⟨rfl, rfl⟩ (fun r55 F55 G55 hq55 => ?_)
                obtain ⟨rfl, fl1, rfl, rfl⟩ := hq55
                exact hvret _ _ _ _ zd39_58 trivial ⟨rfl, _, _, _, _, _, _, _, _, _, _, _, _, _, _, rfl, rfl, hs, hT, hC⟩
        · refine zn_con hB zd39_31 rfl ?_
          refine zn_goto hB zd39_32 rfl ?_
          refine zn_ist hB zd39_36 rfl rfl rfl ?_
          refine zn_ild hB zd39_37 rfl rfl ?_
          refine zn_zne hB zd39_38 rfl (fun h38 => ?_) (fun h38 => ?_)
          · exact body _ _ (zr_p_lt (text := text) (by omega)).2
          · refine zn_ild hB zd39_41 rfl rfl ?_
            refine zn_con hB zd39_42 rfl ?_
            refine zn_ceq hB zd39_44 rfl (fun h44 => ?_) (fun h44 => ?_)
            · exact body _ _ (zr_p_lt (text := text) (by omega)).2
            · refine zn_ild hB zd39_47 rfl rfl ?_
              refine zn_con hB zd39_48 rfl ?_
              refine zn_ceq hB zd39_50 rfl (fun h50 => ?_) (fun h50 => ?_)
              · exact body _ _ (zr_p_lt (text := text) (by omega)).2
              · refine zn_ald hB zd39_53 rfl rfl rfl ?_
                refine zn_con hB zd39_54 rfl ?_
                refine zn_iv1 hB zh41 zd39_55 zxt41 rfl ⟨rfl, rfl⟩ (fun r55 F55 G55 hq55 => ?_)
                obtain ⟨rfl, fl1, rfl, rfl⟩ := hq55
                exact hvret _ _ _ _ zd39_58 trivial ⟨rfl, _, _, _, _, _, _, _, _, _, _, _, _, _, _, rfl, rfl, hs, hT, hC⟩
  · exact hvret _ _ _ _ zd39_7 trivial ⟨rfl, _, _, _, _, _, _, _, _, _, _, _, _, _, _, rfl, rfl, hs, hT, hC⟩
end ZLAWR3
