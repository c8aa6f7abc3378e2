/-! The reading of laws: a clause; a law. -/
theorem zp_q_cg {D said w codes : Int → Int} {cm k : Int} (h : zp_q D said w cm 0 k) (e : codes k = said k) : zp_q D codes (fun _ => 0) cm 0 k := by
  obtain ⟨q1, q2, q3⟩ := h
  unfold zp_q
  rw [e]
  refine ⟨q1, q2, ?_⟩
  rcases q3 with q3 | q3 | q3 | q3 | ⟨q3, q4, q5, q6⟩
  · exact Or.inl q3
  · exact Or.inr (Or.inl q3)
  · exact Or.inr (Or.inr (Or.inl q3))
  · exact Or.inr (Or.inr (Or.inr (Or.inl q3)))
  · refine Or.inr (Or.inr (Or.inr (Or.inr ⟨q3, q4, q5, ?_⟩)))
    rcases q6 with q6 | ⟨j, j1, j2, _⟩
    · exact Or.inl q6
    · exact absurd j1 (by omega)
theorem zp_z {D : Int → Int} {cm x : Int} (h : D x = 0) : zn_up D cm 0 x = 0 := by
  by_cases e : x = cm
  · rw [e]; exact zn_up_s
  · rw [zn_up_n e]; exact h
def zp_no2 (len : Int) (tape : Int → Int) (Fr : List Int) (Gr : List (Int → Int)) (F' : List Int) (G' : List (Int → Int)) : Prop :=
  ∃ pl' fl' op' cm' wt' nb' sm' said' w' sl' sf' sh' st', F' = pl' :: len :: fl' :: op' :: cm' :: wt' :: nb' :: sm' :: Fr ∧ G' = tape :: said' :: w' :: sl' :: sf' :: sh' :: st' :: Gr
section ZREAD6
variable {pl len fl op cm wt nb sm tp cs d : Int} {tape said w sl sf sh st codes co cf ch ct D : Int → Int} {Fr : List Int} {Gr : List (Int → Int)}
theorem zd200_0 : decode zxm200.2.1 0 = .ok (.iload_n 0, 1) := by decide +kernel
theorem zd200_1 : decode zxm200.2.1 1 = .ok (.iload_n 1, 1) := by decide +kernel
theorem zd200_2 : decode zxm200.2.1 2 = .ok (.if_icmp .lt 12, 3) := by decide +kernel
theorem zd200_5 : decode zxm200.2.1 5 = .ok (.iload_n 0, 1) := by decide +kernel
theorem zd200_6 : decode zxm200.2.1 6 = .ok (.iload_n 2, 1) := by decide +kernel
theorem zd200_7 : decode zxm200.2.1 7 = .ok (.if_icmp .gt 7, 3) := by decide +kernel
theorem zd200_10 : decode zxm200.2.1 10 = .ok (.iconst 1, 1) := by decide +kernel
theorem zd200_11 : decode zxm200.2.1 11 = .ok (.goto 4, 3) := by decide +kernel
theorem zd200_14 : decode zxm200.2.1 14 = .ok (.iconst 0, 1) := by decide +kernel
theorem zd200_15 : decode zxm200.2.1 15 = .ok (.ireturn, 1) := by decide +kernel
theorem zh200 {a b c : Int} : zn_OK z_TB z_cl z_KX zyM zxm200 (0, 0) (fun va F G => va = [.inl a, .inl b, .inl c]) (fun va F G r F' G' => F' = F ∧ G' = G ∧ (r = some 1 ∧ b ≤ a ∧ a ≤ c ∨ r = some 0 ∧ (a < b ∨ c < a))) := zn_meth (K := zkM) (FT := z_FT) (MT := z_MT) (n := 3) zxp200 (z_ks13 _ (fun _ h => List.mem_cons_of_mem _ h) _ _ _ _ (fun j r h _ => by cases h)) (fun _ _ => zs_KX_p) (by decide +kernel) (fun va F G h => by obtain ⟨rfl, _⟩ := h; rfl) rfl fun good va F G hB hret hvret hP => by
  subst hP
  refine zn_ild hB zd200_0 rfl rfl ?_
  refine zn_ild hB zd200_1 rfl rfl ?_
  refine zn_clt hB zd200_2 rfl (fun h2 => ?_) (fun h2 => ?_)
  · refine zn_con hB zd200_14 rfl ?_
    refine hret _ _ _ _ _ zd200_15 (by constructor <;> decide) ⟨rfl, rfl, ?_⟩
    first | exact Or.inl ⟨rfl, by omega, by omega⟩ | exact Or.inr ⟨rfl, by omega⟩
  · refine zn_ild hB zd200_5 rfl rfl ?_
    refine zn_ild hB zd200_6 rfl rfl ?_
    refine zn_cgt hB zd200_7 rfl (fun h7 => ?_) (fun h7 => ?_)
    · refine zn_con hB zd200_14 rfl ?_
      refine hret _ _ _ _ _ zd200_15 (by constructor <;> decide) ⟨rfl, rfl, ?_⟩
      first | exact Or.inl ⟨rfl, by omega, by omega⟩ | exact Or.inr ⟨rfl, by omega⟩
    · refine zn_con hB zd200_10 rfl ?_
      refine zn_goto hB zd200_11 rfl ?_
      refine hret _ _ _ _ _ zd200_15 (by constructor <;> decide) ⟨rfl, rfl, ?_⟩
      first | exact Or.inl ⟨rfl, by omega, by omega⟩ | exact Or.inr ⟨rfl, by omega⟩
theorem zd216_0 : decode zxm216.2.1 0 = .ok (.aload_n 0, 1) := by decide +kernel
theorem zd216_1 : decode zxm216.2.1 1 = .ok (.invokevirtual 182, 3) := by decide +kernel
theorem zd216_4 : decode zxm216.2.1 4 = .ok (.istore_n 1, 1) := by decide +kernel
theorem zd216_5 : decode zxm216.2.1 5 = .ok (.iload_n 1, 1) := by decide +kernel
theorem zd216_6 : decode zxm216.2.1 6 = .ok (.invokestatic 253, 3) := by decide +kernel
theorem zd216_9 : decode zxm216.2.1 9 = .ok (.ifCond .ne 13, 3) := by decide +kernel
theorem zd216_12 : decode zxm216.2.1 12 = .ok (.aload_n 0, 1) := by decide +kernel
theorem zd216_13 : decode zxm216.2.1 13 = .ok (.iconst 1, 1) := by decide +kernel
theorem zd216_14 : decode zxm216.2.1 14 = .ok (.aload_n 0, 1) := by decide +kernel
theorem zd216_15 : decode zxm216.2.1 15 = .ok (.getfield 176, 3) := by decide +kernel
theorem zd216_18 : decode zxm216.2.1 18 = .ok (.invokevirtual 189, 3) := by decide +kernel
theorem zd216_21 : decode zxm216.2.1 21 = .ok (.ireturn, 1) := by decide +kernel
theorem zd216_22 : decode zxm216.2.1 22 = .ok (.aload_n 0, 1) := by decide +kernel
theorem zd216_23 : decode zxm216.2.1 23 = .ok (.getfield 256, 3) := by decide +kernel
theorem zd216_26 : decode zxm216.2.1 26 = .ok (.bipush 14, 2) := by decide +kernel
theorem zd216_28 : decode zxm216.2.1 28 = .ok (.if_icmp .ne 13, 3) := by decide +kernel
theorem zd216_31 : decode zxm216.2.1 31 = .ok (.aload_n 0, 1) := by decide +kernel
theorem zd216_32 : decode zxm216.2.1 32 = .ok (.iconst 4, 1) := by decide +kernel
theorem zd216_33 : decode zxm216.2.1 33 = .ok (.aload_n 0, 1) := by decide +kernel
theorem zd216_34 : decode zxm216.2.1 34 = .ok (.getfield 176, 3) := by decide +kernel
theorem zd216_37 : decode zxm216.2.1 37 = .ok (.invokevirtual 189, 3) := by decide +kernel
theorem zd216_40 : decode zxm216.2.1 40 = .ok (.ireturn, 1) := by decide +kernel
theorem zd216_41 : decode zxm216.2.1 41 = .ok (.aload_n 0, 1) := by decide +kernel
theorem zd216_42 : decode zxm216.2.1 42 = .ok (.getfield 29, 3) := by decide +kernel
theorem zd216_45 : decode zxm216.2.1 45 = .ok (.aload_n 0, 1) := by decide +kernel
theorem zd216_46 : decode zxm216.2.1 46 = .ok (.getfield 256, 3) := by decide +kernel
theorem zd216_49 : decode zxm216.2.1 49 = .ok (.iload_n 1, 1) := by decide +kernel
theorem zd216_50 : decode zxm216.2.1 50 = .ok (.iastore, 1) := by decide +kernel
theorem zd216_51 : decode zxm216.2.1 51 = .ok (.aload_n 0, 1) := by decide +kernel
theorem zd216_52 : decode zxm216.2.1 52 = .ok (.aload_n 0, 1) := by decide +kernel
theorem zd216_53 : decode zxm216.2.1 53 = .ok (.getfield 176, 3) := by decide +kernel
theorem zd216_56 : decode zxm216.2.1 56 = .ok (.iconst 1, 1) := by decide +kernel
theorem zd216_57 : decode zxm216.2.1 57 = .ok (.iadd, 1) := by decide +kernel
theorem zd216_58 : decode zxm216.2.1 58 = .ok (.putfield 176, 3) := by decide +kernel
theorem zd216_61 : decode zxm216.2.1 61 = .ok (.aload_n 0, 1) := by decide +kernel
theorem zd216_62 : decode zxm216.2.1 62 = .ok (.getfield 32, 3) := by decide +kernel
theorem zd216_65 : decode zxm216.2.1 65 = .ok (.aload_n 0, 1) := by decide +kernel
theorem zd216_66 : decode zxm216.2.1 66 = .ok (.getfield 256, 3) := by decide +kernel
theorem zd216_69 : decode zxm216.2.1 69 = .ok (.aload_n 0, 1) := by decide +kernel
theorem zd216_70 : decode zxm216.2.1 70 = .ok (.getfield 199, 3) := by decide +kernel
theorem zd216_73 : decode zxm216.2.1 73 = .ok (.iastore, 1) := by decide +kernel
theorem zd216_74 : decode zxm216.2.1 74 = .ok (.aload_n 0, 1) := by decide +kernel
theorem zd216_75 : decode zxm216.2.1 75 = .ok (.iconst 0, 1) := by decide +kernel
theorem zd216_76 : decode zxm216.2.1 76 = .ok (.putfield 203, 3) := by decide +kernel
theorem zd216_79 : decode zxm216.2.1 79 = .ok (.aload_n 0, 1) := by decide +kernel
theorem zd216_80 : decode zxm216.2.1 80 = .ok (.iconst 0, 1) := by decide +kernel
theorem zd216_81 : decode zxm216.2.1 81 = .ok (.putfield 206, 3) := by decide +kernel
theorem zd216_84 : decode zxm216.2.1 84 = .ok (.iload_n 1, 1) := by decide +kernel
theorem zd216_85 : decode zxm216.2.1 85 = .ok (.bipush 118, 2) := by decide +kernel
theorem zd216_87 : decode zxm216.2.1 87 = .ok (.if_icmp .eq 18, 3) := by decide +kernel
theorem zd216_90 : decode zxm216.2.1 90 = .ok (.iload_n 1, 1) := by decide +kernel
theorem zd216_91 : decode zxm216.2.1 91 = .ok (.bipush 106, 2) := by decide +kernel
theorem zd216_93 : decode zxm216.2.1 93 = .ok (.if_icmp .eq 12, 3) := by decide +kernel
theorem zd216_96 : decode zxm216.2.1 96 = .ok (.aload_n 0, 1) := by decide +kernel
theorem zd216_97 : decode zxm216.2.1 97 = .ok (.invokevirtual 238, 3) := by decide +kernel
theorem zd216_100 : decode zxm216.2.1 100 = .ok (.ifCond .ne 5, 3) := by decide +kernel
theorem zd216_103 : decode zxm216.2.1 103 = .ok (.iconst 0, 1) := by decide +kernel
theorem zd216_104 : decode zxm216.2.1 104 = .ok (.ireturn, 1) := by decide +kernel
theorem zd216_105 : decode zxm216.2.1 105 = .ok (.aload_n 0, 1) := by decide +kernel
theorem zd216_106 : decode zxm216.2.1 106 = .ok (.getfield 35, 3) := by decide +kernel
theorem zd216_109 : decode zxm216.2.1 109 = .ok (.aload_n 0, 1) := by decide +kernel
theorem zd216_110 : decode zxm216.2.1 110 = .ok (.getfield 256, 3) := by decide +kernel
theorem zd216_113 : decode zxm216.2.1 113 = .ok (.aload_n 0, 1) := by decide +kernel
theorem zd216_114 : decode zxm216.2.1 114 = .ok (.getfield 199, 3) := by decide +kernel
theorem zd216_117 : decode zxm216.2.1 117 = .ok (.iastore, 1) := by decide +kernel
theorem zd216_118 : decode zxm216.2.1 118 = .ok (.aload_n 0, 1) := by decide +kernel
theorem zd216_119 : decode zxm216.2.1 119 = .ok (.invokevirtual 259, 3) := by decide +kernel
theorem zd216_122 : decode zxm216.2.1 122 = .ok (.ifCond .ne 5, 3) := by decide +kernel
theorem zd216_125 : decode zxm216.2.1 125 = .ok (.iconst 0, 1) := by decide +kernel
theorem zd216_126 : decode zxm216.2.1 126 = .ok (.ireturn, 1) := by decide +kernel
theorem zd216_127 : decode zxm216.2.1 127 = .ok (.aload_n 0, 1) := by decide +kernel
theorem zd216_128 : decode zxm216.2.1 128 = .ok (.getfield 38, 3) := by decide +kernel
theorem zd216_131 : decode zxm216.2.1 131 = .ok (.aload_n 0, 1) := by decide +kernel
theorem zd216_132 : decode zxm216.2.1 132 = .ok (.getfield 256, 3) := by decide +kernel
theorem zd216_135 : decode zxm216.2.1 135 = .ok (.aload_n 0, 1) := by decide +kernel
theorem zd216_136 : decode zxm216.2.1 136 = .ok (.getfield 199, 3) := by decide +kernel
theorem zd216_139 : decode zxm216.2.1 139 = .ok (.iastore, 1) := by decide +kernel
theorem zd216_140 : decode zxm216.2.1 140 = .ok (.aload_n 0, 1) := by decide +kernel
theorem zd216_141 : decode zxm216.2.1 141 = .ok (.aload_n 0, 1) := by decide +kernel
theorem zd216_142 : decode zxm216.2.1 142 = .ok (.getfield 256, 3) := by decide +kernel
theorem zd216_145 : decode zxm216.2.1 145 = .ok (.iconst 1, 1) := by decide +kernel
theorem zd216_146 : decode zxm216.2.1 146 = .ok (.iadd, 1) := by decide +kernel
theorem zd216_147 : decode zxm216.2.1 147 = .ok (.putfield 256, 3) := by decide +kernel
theorem zd216_150 : decode zxm216.2.1 150 = .ok (.iconst 1, 1) := by decide +kernel
theorem zd216_151 : decode zxm216.2.1 151 = .ok (.ireturn, 1) := by decide +kernel
theorem zh216  : zn_OK z_TB z_cl z_KX zyM zxm216 (7, 420) (fun va F G => va = [.inr 0] ∧ F = pl :: len :: fl :: op :: cm :: wt :: nb :: sm :: Fr ∧ G = tape :: said :: w :: sl :: sf :: sh :: st :: Gr ∧ 0 ≤ sm ∧ sm ≤ 14 ∧ zp_s 0 D said w pl len cm 0 d ∧ zp_cl D sf sh st cm sm) (fun va F G r F' G' => (r = some 0 ∧ zp_no2 len tape Fr Gr F' G') ∨ (r = some 1 ∧ ∃ D' said' w' pl' op' cm' wt' nb' sl' sf' sh' st', F' = pl' :: len :: fl :: op' :: cm' :: wt' :: nb' :: (sm + 1) :: Fr ∧ G' = tape :: said' :: w' :: sl' :: sf' :: sh' :: st' :: Gr ∧ zp_s 0 D' said' w' pl' len cm' 0 1 ∧ zp_cl D' sf' sh' st' cm' (sm + 1) ∧ sm + 1 ≤ 14 ∧ pl < pl')) := zn_meth (K := zkM) (FT := z_FT) (MT := z_MT) (n := 1) zxp216 (z_ks13 _ (fun _ h => List.mem_cons_of_mem _ h) _ _ _ _ (fun j r h _ => by cases h)) (fun _ _ => zs_KX_p) (by decide +kernel) (fun va F G h => by obtain ⟨rfl, _⟩ := h; rfl) rfl fun good va F G hB hret hvret hP => by
  obtain ⟨rfl, rfl, rfl, hm1, hm2, hs, hcl⟩ := hP
  obtain ⟨a1, a2, a3, a4, a5, a6, a7, a8⟩ := hs.1
  have hs0 : zp_s 0 (zn_up D cm 0) said w pl len cm 0 0 := zp_none (w := w) (zp_low hs (by omega) a8)
  refine zn_ald hB zd216_0 rfl rfl rfl ?_
  refine zn_iv0 hB (zh217 (pl := pl) (len := len) (tape := tape)) zd216_1 zxt217 rfl ⟨rfl, rfl, rfl, by omega, by omega⟩ (fun r1 F1 G1 hq1 => ?_)
  obtain ⟨rfl, rfl, rfl⟩ := hq1
  refine zn_ist hB zd216_4 rfl rfl rfl ?_
  refine zn_ild hB zd216_5 rfl rfl ?_
  refine zn_it1 hB zh218 zd216_6 zxt218 rfl rfl (fun r6 F6 G6 hq6 => ?_)
  obtain ⟨rfl, rfl, hx⟩ := hq6
  rcases hx with ⟨rfl, hx⟩ | rfl
  · refine zn_zne hB zd216_9 rfl (fun h9 => ?_) (fun h9 => ?_)
    · have hlt := zp_h_lt (tape := tape) (pl := pl) (len := len) hx
      refine zn_ald hB zd216_22 rfl rfl rfl ?_
      refine zn_getf hB zd216_23 rfl rfl (fun q23 r23 => ?_)
      refine zn_con hB zd216_26 rfl ?_
      refine zn_cne hB zd216_28 rfl (fun h28 => ?_) (fun h28 => ?_)
      · refine zn_ald hB zd216_41 rfl rfl rfl ?_
        refine zn_getr hB zd216_42 rfl ?_
        refine zn_ald hB zd216_45 rfl rfl rfl ?_
        refine zn_getf hB zd216_46 rfl rfl (fun q46 r46 => ?_)
        refine zn_ild hB zd216_49 rfl rfl ?_
        refine zn_iast hB zd216_50 rfl rfl (by omega) (by omega) ?_
        refine zn_ald hB zd216_51 rfl rfl rfl ?_
        refine zn_ald hB zd216_52 rfl rfl rfl ?_
        refine zn_getf hB zd216_53 rfl rfl (fun q53 r53 => ?_)
        refine zn_con hB zd216_56 rfl ?_
        refine zn_iadd hB zd216_57 (by omega) (by omega) ?_
        refine zn_putf hB zd216_58 rfl rfl (fun h => by cases h) rfl ?_
        refine zn_ald hB zd216_61 rfl rfl rfl ?_
        refine zn_getr hB zd216_62 rfl ?_
        refine zn_ald hB zd216_65 rfl rfl rfl ?_
        refine zn_getf hB zd216_66 rfl rfl (fun q66 r66 => ?_)
        refine zn_ald hB zd216_69 rfl rfl rfl ?_
        refine zn_getf hB zd216_70 rfl rfl (fun q70 r70 => ?_)
        refine zn_iast hB zd216_73 rfl rfl (by omega) (by omega) ?_
        refine zn_ald hB zd216_74 rfl rfl rfl ?_
        refine zn_con hB zd216_75 rfl ?_
        refine zn_putf hB zd216_76 rfl rfl (fun h => by cases h) rfl ?_
        refine zn_ald hB zd216_79 rfl rfl rfl ?_
        refine zn_con hB zd216_80 rfl ?_
        refine zn_putf hB zd216_81 rfl rfl (fun h => by cases h) rfl ?_
        have body : ∀ (D1 said1 w1 : Int → Int) (pl1 op1 cm1 nb1 d1 : Int), zp_s 0 D1 said1 w1 pl1 len cm1 0 d1 → (∀ k, k ≤ cm → D1 k = zn_up D cm 0 k) → cm ≤ cm1 → pl < pl1 → good 105 [.inr 0, .inl (zp_h tape pl len)] [] (pl1 :: len :: fl :: op1 :: cm1 :: 0 :: nb1 :: sm :: Fr) (tape :: said1 :: w1 :: zn_up sl sm (zp_h tape pl len) :: zn_up sf sm cm :: sh :: st :: Gr) := by
          intro D1 said1 w1 pl1 op1 cm1 nb1 d1 h1 hD hcm hpl
          refine zn_ald hB zd216_105 rfl rfl rfl ?_
          refine zn_getr hB zd216_106 rfl ?_
          refine zn_ald hB zd216_109 rfl rfl rfl ?_
          refine zn_getf hB zd216_110 rfl rfl (fun q110 r110 => ?_)
          refine zn_ald hB zd216_113 rfl rfl rfl ?_
          refine zn_getf hB zd216_114 rfl rfl (fun q114 r114 => ?_)
          refine zn_iast hB zd216_117 rfl rfl (by omega) (by omega) ?_
          refine zn_ald hB zd216_118 rfl rfl rfl ?_
          refine zn_iv0 hB (zh231 (e0 := 0) (D := zn_up D1 cm1 0) (said := said1) (w := w1) (pl := pl1) (cm := cm1) (wt := 0) (len := len)) zd216_119 zxt231 rfl ⟨rfl, rfl, rfl, zp_low h1 (by omega) h1.1.2.2.2.2.2.2.2⟩ (fun r119 F119 G119 hq119 => ?_)
          rcases hq119 with ⟨rfl, p0, f0, o0, c0, w0, n0, s0, t0, rfl, rfl⟩ | ⟨rfl, D3, said3, w3, pl3, op3, cm3, nb3, rfl, rfl, k1, k2, k3, k4⟩
          · refine zn_zne hB zd216_122 rfl (fun h122 => ?_) (fun h122 => ?_)
            · exfalso; omega
            · refine zn_con hB zd216_125 rfl ?_
              exact hret _ _ _ _ _ zd216_126 (by constructor <;> decide) (Or.inl ⟨rfl, _, _, _, _, _, _, _, _, _, _, _, _, _, rfl, rfl⟩)
          · refine zn_zne hB zd216_122 rfl (fun h122 => ?_) (fun h122 => ?_)
            · refine zn_ald hB zd216_127 rfl rfl rfl ?_
              refine zn_getr hB zd216_128 rfl ?_
              refine zn_ald hB zd216_131 rfl rfl rfl ?_
              refine zn_getf hB zd216_132 rfl rfl (fun q132 r132 => ?_)
              refine zn_ald hB zd216_135 rfl rfl rfl ?_
              refine zn_getf hB zd216_136 rfl rfl (fun q136 r136 => ?_)
              refine zn_iast hB zd216_139 rfl rfl (by omega) (by omega) ?_
              refine zn_ald hB zd216_140 rfl rfl rfl ?_
              refine zn_ald hB zd216_141 rfl rfl rfl ?_
              refine zn_getf hB zd216_142 rfl rfl (fun q142 r142 => ?_)
              refine zn_con hB zd216_145 rfl ?_
              refine zn_iadd hB zd216_146 (by omega) (by omega) ?_
              refine zn_putf hB zd216_147 rfl rfl (fun h => by cases h) rfl ?_
              refine zn_con hB zd216_150 rfl ?_
              refine hret _ _ _ _ _ zd216_151 (by constructor <;> decide) (Or.inr ⟨rfl, D3, said3, w3, pl3, op3, cm3, 0, nb3, _, _, _, _, rfl, rfl, k1, fun q q1 q2 => ?_, by omega, by omega⟩)
              have kc := k1.1
              by_cases e : q = sm
              · subst e
                rw [zn_up_s, zn_up_s, zn_up_s]
                refine ⟨by omega, hcm, k3, Int.le_refl _, ?_, ?_⟩
                · rw [k2 cm hcm, zp_z (by rw [hD cm (Int.le_refl _)]; exact zn_up_s)]
                · rw [k2 cm1 (Int.le_refl _)]; exact zn_up_s
              · obtain ⟨c1, c2, c3, c4, c5, c6⟩ := hcl q q1 (by omega)
                rw [zn_up_n e, zn_up_n e, zn_up_n e]
                refine ⟨c1, c2, c3, by omega, ?_, ?_⟩
                · rw [k2 _ (by omega), zp_z (by rw [hD _ (by omega)]; exact zp_z c5)]
                · rw [k2 _ (by omega), zp_z (by rw [hD _ (by omega)]; exact zp_z c6)]
            · exfalso; omega
        refine zn_ild hB zd216_84 rfl rfl ?_
        refine zn_con hB zd216_85 rfl ?_
        refine zn_ceq hB zd216_87 rfl (fun h87 => ?_) (fun h87 => ?_)
        · first | exact body _ _ _ _ _ _ _ _ g1 g2 g3 (by omega) | exact body _ _ _ _ _ _ _ _ (zp_on (pl2 := pl + 1) hs0 (by omega) (by omega)) (fun _ _ => rfl) (Int.le_refl _) (by omega)
        · refine zn_ild hB zd216_90 rfl rfl ?_
          refine zn_con hB zd216_91 rfl ?_
          refine zn_ceq hB zd216_93 rfl (fun h93 => ?_) (fun h93 => ?_)
          · first | exact body _ _ _ _ _ _ _ _ g1 g2 g3 (by omega) | exact body _ _ _ _ _ _ _ _ (zp_on (pl2 := pl + 1) hs0 (by omega) (by omega)) (fun _ _ => rfl) (Int.le_refl _) (by omega)
          · refine zn_ald hB zd216_96 rfl rfl rfl ?_
            refine zn_iv0 hB (zh220 (e0 := 0) (D := zn_up D cm 0) (said := said) (w := w) (pl := pl + 1) (cm := cm) (wt := 0) (d := 0) (len := len)) zd216_97 zxt220 rfl ⟨rfl, rfl, rfl, zp_on hs0 (by omega) (by omega), Or.inl rfl⟩ (fun r97 F97 G97 hq97 => ?_)
            rcases hq97 with ⟨rfl, p0, f0, o0, c0, w0, n0, s0, t0, rfl, rfl⟩ | ⟨rfl, D1, said1, w1, pl1, op1, cm1, nb1, rfl, rfl, g1, g2, g3, g4, g5, g6⟩
            · refine zn_zne hB zd216_100 rfl (fun h100 => ?_) (fun h100 => ?_)
              · exfalso; omega
              · refine zn_con hB zd216_103 rfl ?_
                exact hret _ _ _ _ _ zd216_104 (by constructor <;> decide) (Or.inl ⟨rfl, _, _, _, _, _, _, _, _, _, _, _, _, _, rfl, rfl⟩)
            · refine zn_zne hB zd216_100 rfl (fun h100 => ?_) (fun h100 => ?_)
              · first | exact body _ _ _ _ _ _ _ _ g1 g2 g3 (by omega) | exact body _ _ _ _ _ _ _ _ (zp_on (pl2 := pl + 1) hs0 (by omega) (by omega)) (fun _ _ => rfl) (Int.le_refl _) (by omega)
              · exfalso; omega
      · refine zn_ald hB zd216_31 rfl rfl rfl ?_
        refine zn_con hB zd216_32 rfl ?_
        refine zn_ald hB zd216_33 rfl rfl rfl ?_
        refine zn_getf hB zd216_34 rfl rfl (fun q34 r34 => ?_)
        refine zn_iv2 hB zh219 zd216_37 zxt219 rfl ⟨rfl, rfl⟩ (fun r37 F37 G37 hq37 => ?_)
        obtain ⟨rfl, fl1, rfl, rfl⟩ := hq37
        exact hret _ _ _ _ _ zd216_40 (by constructor <;> decide) (Or.inl ⟨rfl, _, _, _, _, _, _, _, _, _, _, _, _, _, rfl, rfl⟩)
    · exfalso; omega
  · refine zn_zne hB zd216_9 rfl (fun h9 => ?_) (fun h9 => ?_)
    · exfalso; omega
    · refine zn_ald hB zd216_12 rfl rfl rfl ?_
      refine zn_con hB zd216_13 rfl ?_
      refine zn_ald hB zd216_14 rfl rfl rfl ?_
      refine zn_getf hB zd216_15 rfl rfl (fun q15 r15 => ?_)
      refine zn_iv2 hB zh219 zd216_18 zxt219 rfl ⟨rfl, rfl⟩ (fun r18 F18 G18 hq18 => ?_)
      obtain ⟨rfl, fl1, rfl, rfl⟩ := hq18
      exact hret _ _ _ _ _ zd216_21 (by constructor <;> decide) (Or.inl ⟨rfl, _, _, _, _, _, _, _, _, _, _, _, _, _, rfl, rfl⟩)
end ZREAD6
