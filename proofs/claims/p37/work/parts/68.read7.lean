/-! The reading of laws: all of a law. -/
theorem zp_s_0 {said w : Int → Int} {n : Int} (h1 : 1 ≤ n) (h2 : n ≤ 200) : zp_s 0 (fun _ => 0) said w 0 n 0 0 0 :=
  ⟨⟨Int.le_refl _, Int.le_refl _, Int.le_refl _, by omega, h2, by rw [zp_pn_0]; omega, rfl, Int.le_refl _⟩, fun k k1 k2 => absurd k1 (by omega), fun j j1 j2 => absurd j1 (by omega)⟩
section ZREAD7
variable {pl len fl op cm wt nb sm tp cs d n : Int} {tape said w sl sf sh st codes co cf ch ct D : Int → Int} {Fr : List Int} {Gr : List (Int → Int)}
theorem zd215_0 : decode zxm215.2.1 0 = .ok (.iload_n 1, 1) := by decide +kernel
theorem zd215_1 : decode zxm215.2.1 1 = .ok (.iconst 1, 1) := by decide +kernel
theorem zd215_2 : decode zxm215.2.1 2 = .ok (.sipush 200, 3) := by decide +kernel
theorem zd215_5 : decode zxm215.2.1 5 = .ok (.invokestatic 150, 3) := by decide +kernel
theorem zd215_8 : decode zxm215.2.1 8 = .ok (.ifCond .eq 11, 3) := by decide +kernel
theorem zd215_11 : decode zxm215.2.1 11 = .ok (.iload_n 1, 1) := by decide +kernel
theorem zd215_12 : decode zxm215.2.1 12 = .ok (.aload_n 0, 1) := by decide +kernel
theorem zd215_13 : decode zxm215.2.1 13 = .ok (.getfield 168, 3) := by decide +kernel
theorem zd215_16 : decode zxm215.2.1 16 = .ok (.if_icmp .le 5, 3) := by decide +kernel
theorem zd215_19 : decode zxm215.2.1 19 = .ok (.iconst (-1), 1) := by decide +kernel
theorem zd215_20 : decode zxm215.2.1 20 = .ok (.ireturn, 1) := by decide +kernel
theorem zd215_21 : decode zxm215.2.1 21 = .ok (.aload_n 0, 1) := by decide +kernel
theorem zd215_22 : decode zxm215.2.1 22 = .ok (.iconst 0, 1) := by decide +kernel
theorem zd215_23 : decode zxm215.2.1 23 = .ok (.putfield 176, 3) := by decide +kernel
theorem zd215_26 : decode zxm215.2.1 26 = .ok (.aload_n 0, 1) := by decide +kernel
theorem zd215_27 : decode zxm215.2.1 27 = .ok (.iload_n 1, 1) := by decide +kernel
theorem zd215_28 : decode zxm215.2.1 28 = .ok (.putfield 179, 3) := by decide +kernel
theorem zd215_31 : decode zxm215.2.1 31 = .ok (.aload_n 0, 1) := by decide +kernel
theorem zd215_32 : decode zxm215.2.1 32 = .ok (.iconst 0, 1) := by decide +kernel
theorem zd215_33 : decode zxm215.2.1 33 = .ok (.putfield 199, 3) := by decide +kernel
theorem zd215_36 : decode zxm215.2.1 36 = .ok (.aload_n 0, 1) := by decide +kernel
theorem zd215_37 : decode zxm215.2.1 37 = .ok (.iconst 0, 1) := by decide +kernel
theorem zd215_38 : decode zxm215.2.1 38 = .ok (.putfield 256, 3) := by decide +kernel
theorem zd215_41 : decode zxm215.2.1 41 = .ok (.aload_n 0, 1) := by decide +kernel
theorem zd215_42 : decode zxm215.2.1 42 = .ok (.invokevirtual 262, 3) := by decide +kernel
theorem zd215_45 : decode zxm215.2.1 45 = .ok (.istore_n 2, 1) := by decide +kernel
theorem zd215_46 : decode zxm215.2.1 46 = .ok (.iload_n 2, 1) := by decide +kernel
theorem zd215_47 : decode zxm215.2.1 47 = .ok (.ifCond .eq 39, 3) := by decide +kernel
theorem zd215_50 : decode zxm215.2.1 50 = .ok (.aload_n 0, 1) := by decide +kernel
theorem zd215_51 : decode zxm215.2.1 51 = .ok (.getfield 176, 3) := by decide +kernel
theorem zd215_54 : decode zxm215.2.1 54 = .ok (.aload_n 0, 1) := by decide +kernel
theorem zd215_55 : decode zxm215.2.1 55 = .ok (.getfield 179, 3) := by decide +kernel
theorem zd215_58 : decode zxm215.2.1 58 = .ok (.if_icmp .ge 28, 3) := by decide +kernel
theorem zd215_61 : decode zxm215.2.1 61 = .ok (.aload_n 0, 1) := by decide +kernel
theorem zd215_62 : decode zxm215.2.1 62 = .ok (.bipush 59, 2) := by decide +kernel
theorem zd215_64 : decode zxm215.2.1 64 = .ok (.invokevirtual 265, 3) := by decide +kernel
theorem zd215_67 : decode zxm215.2.1 67 = .ok (.ifCond .eq 14, 3) := by decide +kernel
theorem zd215_70 : decode zxm215.2.1 70 = .ok (.aload_n 0, 1) := by decide +kernel
theorem zd215_71 : decode zxm215.2.1 71 = .ok (.invokevirtual 262, 3) := by decide +kernel
theorem zd215_74 : decode zxm215.2.1 74 = .ok (.ifCond .eq 7, 3) := by decide +kernel
theorem zd215_77 : decode zxm215.2.1 77 = .ok (.iconst 1, 1) := by decide +kernel
theorem zd215_78 : decode zxm215.2.1 78 = .ok (.goto 4, 3) := by decide +kernel
theorem zd215_81 : decode zxm215.2.1 81 = .ok (.iconst 0, 1) := by decide +kernel
theorem zd215_82 : decode zxm215.2.1 82 = .ok (.istore_n 2, 1) := by decide +kernel
theorem zd215_83 : decode zxm215.2.1 83 = .ok (.goto (-37), 3) := by decide +kernel
theorem zd215_86 : decode zxm215.2.1 86 = .ok (.aload_n 0, 1) := by decide +kernel
theorem zd215_87 : decode zxm215.2.1 87 = .ok (.iconst 0, 1) := by decide +kernel
theorem zd215_88 : decode zxm215.2.1 88 = .ok (.putfield 168, 3) := by decide +kernel
theorem zd215_91 : decode zxm215.2.1 91 = .ok (.iload_n 2, 1) := by decide +kernel
theorem zd215_92 : decode zxm215.2.1 92 = .ok (.ifCond .ne 8, 3) := by decide +kernel
theorem zd215_95 : decode zxm215.2.1 95 = .ok (.aload_n 0, 1) := by decide +kernel
theorem zd215_96 : decode zxm215.2.1 96 = .ok (.getfield 186, 3) := by decide +kernel
theorem zd215_99 : decode zxm215.2.1 99 = .ok (.ireturn, 1) := by decide +kernel
theorem zd215_100 : decode zxm215.2.1 100 = .ok (.aload_n 0, 1) := by decide +kernel
theorem zd215_101 : decode zxm215.2.1 101 = .ok (.aload_n 0, 1) := by decide +kernel
theorem zd215_102 : decode zxm215.2.1 102 = .ok (.getfield 256, 3) := by decide +kernel
theorem zd215_105 : decode zxm215.2.1 105 = .ok (.putfield 268, 3) := by decide +kernel
theorem zd215_108 : decode zxm215.2.1 108 = .ok (.iconst 0, 1) := by decide +kernel
theorem zd215_109 : decode zxm215.2.1 109 = .ok (.istore_n 3, 1) := by decide +kernel
theorem zd215_110 : decode zxm215.2.1 110 = .ok (.iload_n 3, 1) := by decide +kernel
theorem zd215_111 : decode zxm215.2.1 111 = .ok (.aload_n 0, 1) := by decide +kernel
theorem zd215_112 : decode zxm215.2.1 112 = .ok (.getfield 199, 3) := by decide +kernel
theorem zd215_115 : decode zxm215.2.1 115 = .ok (.if_icmp .ge 21, 3) := by decide +kernel
theorem zd215_118 : decode zxm215.2.1 118 = .ok (.aload_n 0, 1) := by decide +kernel
theorem zd215_119 : decode zxm215.2.1 119 = .ok (.getfield 41, 3) := by decide +kernel
theorem zd215_122 : decode zxm215.2.1 122 = .ok (.iload_n 3, 1) := by decide +kernel
theorem zd215_123 : decode zxm215.2.1 123 = .ok (.aload_n 0, 1) := by decide +kernel
theorem zd215_124 : decode zxm215.2.1 124 = .ok (.getfield 23, 3) := by decide +kernel
theorem zd215_127 : decode zxm215.2.1 127 = .ok (.iload_n 3, 1) := by decide +kernel
theorem zd215_128 : decode zxm215.2.1 128 = .ok (.iaload, 1) := by decide +kernel
theorem zd215_129 : decode zxm215.2.1 129 = .ok (.iastore, 1) := by decide +kernel
theorem zd215_130 : decode zxm215.2.1 130 = .ok (.iinc 3 1, 3) := by decide +kernel
theorem zd215_133 : decode zxm215.2.1 133 = .ok (.goto (-23), 3) := by decide +kernel
theorem zd215_136 : decode zxm215.2.1 136 = .ok (.iconst 0, 1) := by decide +kernel
theorem zd215_137 : decode zxm215.2.1 137 = .ok (.istore_n 3, 1) := by decide +kernel
theorem zd215_138 : decode zxm215.2.1 138 = .ok (.iload_n 3, 1) := by decide +kernel
theorem zd215_139 : decode zxm215.2.1 139 = .ok (.aload_n 0, 1) := by decide +kernel
theorem zd215_140 : decode zxm215.2.1 140 = .ok (.getfield 256, 3) := by decide +kernel
theorem zd215_143 : decode zxm215.2.1 143 = .ok (.if_icmp .ge 57, 3) := by decide +kernel
theorem zd215_146 : decode zxm215.2.1 146 = .ok (.aload_n 0, 1) := by decide +kernel
theorem zd215_147 : decode zxm215.2.1 147 = .ok (.getfield 44, 3) := by decide +kernel
theorem zd215_150 : decode zxm215.2.1 150 = .ok (.iload_n 3, 1) := by decide +kernel
theorem zd215_151 : decode zxm215.2.1 151 = .ok (.aload_n 0, 1) := by decide +kernel
theorem zd215_152 : decode zxm215.2.1 152 = .ok (.getfield 29, 3) := by decide +kernel
theorem zd215_155 : decode zxm215.2.1 155 = .ok (.iload_n 3, 1) := by decide +kernel
theorem zd215_156 : decode zxm215.2.1 156 = .ok (.iaload, 1) := by decide +kernel
theorem zd215_157 : decode zxm215.2.1 157 = .ok (.iastore, 1) := by decide +kernel
theorem zd215_158 : decode zxm215.2.1 158 = .ok (.aload_n 0, 1) := by decide +kernel
theorem zd215_159 : decode zxm215.2.1 159 = .ok (.getfield 47, 3) := by decide +kernel
theorem zd215_162 : decode zxm215.2.1 162 = .ok (.iload_n 3, 1) := by decide +kernel
theorem zd215_163 : decode zxm215.2.1 163 = .ok (.aload_n 0, 1) := by decide +kernel
theorem zd215_164 : decode zxm215.2.1 164 = .ok (.getfield 32, 3) := by decide +kernel
theorem zd215_167 : decode zxm215.2.1 167 = .ok (.iload_n 3, 1) := by decide +kernel
theorem zd215_168 : decode zxm215.2.1 168 = .ok (.iaload, 1) := by decide +kernel
theorem zd215_169 : decode zxm215.2.1 169 = .ok (.iastore, 1) := by decide +kernel
theorem zd215_170 : decode zxm215.2.1 170 = .ok (.aload_n 0, 1) := by decide +kernel
theorem zd215_171 : decode zxm215.2.1 171 = .ok (.getfield 50, 3) := by decide +kernel
theorem zd215_174 : decode zxm215.2.1 174 = .ok (.iload_n 3, 1) := by decide +kernel
theorem zd215_175 : decode zxm215.2.1 175 = .ok (.aload_n 0, 1) := by decide +kernel
theorem zd215_176 : decode zxm215.2.1 176 = .ok (.getfield 35, 3) := by decide +kernel
theorem zd215_179 : decode zxm215.2.1 179 = .ok (.iload_n 3, 1) := by decide +kernel
theorem zd215_180 : decode zxm215.2.1 180 = .ok (.iaload, 1) := by decide +kernel
theorem zd215_181 : decode zxm215.2.1 181 = .ok (.iastore, 1) := by decide +kernel
theorem zd215_182 : decode zxm215.2.1 182 = .ok (.aload_n 0, 1) := by decide +kernel
theorem zd215_183 : decode zxm215.2.1 183 = .ok (.getfield 53, 3) := by decide +kernel
theorem zd215_186 : decode zxm215.2.1 186 = .ok (.iload_n 3, 1) := by decide +kernel
theorem zd215_187 : decode zxm215.2.1 187 = .ok (.aload_n 0, 1) := by decide +kernel
theorem zd215_188 : decode zxm215.2.1 188 = .ok (.getfield 38, 3) := by decide +kernel
theorem zd215_191 : decode zxm215.2.1 191 = .ok (.iload_n 3, 1) := by decide +kernel
theorem zd215_192 : decode zxm215.2.1 192 = .ok (.iaload, 1) := by decide +kernel
theorem zd215_193 : decode zxm215.2.1 193 = .ok (.iastore, 1) := by decide +kernel
theorem zd215_194 : decode zxm215.2.1 194 = .ok (.iinc 3 1, 3) := by decide +kernel
theorem zd215_197 : decode zxm215.2.1 197 = .ok (.goto (-59), 3) := by decide +kernel
theorem zd215_200 : decode zxm215.2.1 200 = .ok (.aload_n 0, 1) := by decide +kernel
theorem zd215_201 : decode zxm215.2.1 201 = .ok (.getfield 256, 3) := by decide +kernel
theorem zd215_204 : decode zxm215.2.1 204 = .ok (.ireturn, 1) := by decide +kernel
theorem zh215  : zn_OK z_TB z_cl z_KX zyM zxm215 (8, 480) (fun va F G => va = [.inr 0, .inl n] ∧ F = pl :: len :: fl :: op :: cm :: wt :: nb :: sm :: tp :: cs :: Fr ∧ G = tape :: said :: w :: sl :: sf :: sh :: st :: codes :: co :: cf :: ch :: ct :: Gr ∧ 0 ≤ tp ∧ tp ≤ 220 ∧ zp_J codes cs cf ch ct) (fun va F G r F' G' => ∃ v pl' len' fl' op' cm' wt' nb' sm' tp' cs' said' w' sl' sf' sh' st' codes' co' cf' ch' ct', r = some v ∧ F' = pl' :: len' :: fl' :: op' :: cm' :: wt' :: nb' :: sm' :: tp' :: cs' :: Fr ∧ G' = tape :: said' :: w' :: sl' :: sf' :: sh' :: st' :: codes' :: co' :: cf' :: ch' :: ct' :: Gr ∧ zp_J codes' cs' cf' ch' ct' ∧ 0 ≤ tp' ∧ tp' ≤ 220) := zn_meth (K := zkM) (FT := z_FT) (MT := z_MT) (n := 2) zxp215 (z_ks13 _ (fun _ h => List.mem_cons_of_mem _ h) _ _ _ _ (fun j r h _ => by cases h)) (fun _ _ => zs_KX_p) (by decide +kernel) (fun va F G h => by obtain ⟨rfl, _⟩ := h; rfl) rfl fun good va F G hB hret hvret hP => by
  obtain ⟨rfl, rfl, rfl, ht1, ht2, hJ⟩ := hP
  have low : ∀ (pl1 fl1 op1 cm1 wt1 nb1 sm1 tp1 : Int) (said1 w1 sl1 sf1 sh1 st1 : Int → Int) (x : zNV), good 46 [.inr 0, .inl n, .inl 0, x] [] (pl1 :: n :: fl1 :: op1 :: cm1 :: wt1 :: nb1 :: sm1 :: tp1 :: cs :: Fr) (tape :: said1 :: w1 :: sl1 :: sf1 :: sh1 :: st1 :: codes :: co :: cf :: ch :: ct :: Gr) := by
    intro pl1 fl1 op1 cm1 wt1 nb1 sm1 tp1 said1 w1 sl1 sf1 sh1 st1 x
    refine zn_ild hB zd215_46 rfl rfl ?_
    refine zn_zeq hB zd215_47 rfl (fun h47 => ?_) (fun h47 => ?_)
    · refine zn_ald hB zd215_86 rfl rfl rfl ?_
      refine zn_con hB zd215_87 rfl ?_
      refine zn_putf hB zd215_88 rfl rfl (fun h => by cases h) rfl ?_
      refine zn_ild hB zd215_91 rfl rfl ?_
      refine zn_zne hB zd215_92 rfl (fun h92 => ?_) (fun h92 => ?_)
      · exfalso; omega
      · refine zn_ald hB zd215_95 rfl rfl rfl ?_
        refine zn_getf hB zd215_96 rfl rfl (fun q96 r96 => ?_)
        exact hret _ _ _ _ _ zd215_99 trivial ⟨_, _, _, _, _, _, _, _, _, _, _, _, _, _, _, _, _, _, _, _, _, _, rfl, rfl, rfl, hJ, by omega, by omega⟩
    · exfalso; omega
  have two : ∀ (m : Nat) (k : Int) (pl1 fl1 op1 cm1 wt1 nb1 sm1 : Int) (D1 said1 w1 sl1 sf1 sh1 st1 codes1 co1 cf1 ch1 ct1 : Int → Int), zp_s 0 D1 said1 w1 pl1 n cm1 0 1 → zp_cl D1 sf1 sh1 st1 cm1 sm1 → 0 ≤ sm1 → sm1 ≤ 14 → (∀ i, 0 ≤ i → i < cm1 → codes1 i = said1 i) → 0 ≤ k → k ≤ sm1 → (∀ i, 0 ≤ i → i < k → cf1 i = sf1 i ∧ ch1 i = sh1 i ∧ ct1 i = st1 i) → sm1 - k < m → good 138 [.inr 0, .inl n, .inl 1, .inl k] [] (pl1 :: n :: fl1 :: op1 :: cm1 :: wt1 :: nb1 :: sm1 :: 0 :: sm1 :: Fr) (tape :: said1 :: w1 :: sl1 :: sf1 :: sh1 :: st1 :: codes1 :: co1 :: cf1 :: ch1 :: ct1 :: Gr) := by
    intro m
    induction m with
    | zero =>
      intro k pl1 fl1 op1 cm1 wt1 nb1 sm1 D1 said1 w1 sl1 sf1 sh1 st1 codes1 co1 cf1 ch1 ct1 e1 e2 e3 e4 e5 e6 e7 e8 e9
      exfalso; omega
    | succ m ih =>
      intro k pl1 fl1 op1 cm1 wt1 nb1 sm1 D1 said1 w1 sl1 sf1 sh1 st1 codes1 co1 cf1 ch1 ct1 e1 e2 e3 e4 e5 e6 e7 e8 e9
      refine zn_ild hB zd215_138 rfl rfl ?_
      refine zn_ald hB zd215_139 rfl rfl rfl ?_
      refine zn_getf hB zd215_140 rfl rfl (fun q140 r140 => ?_)
      refine zn_cge hB zd215_143 rfl (fun h143 => ?_) (fun h143 => ?_)
      · refine zn_ald hB zd215_200 rfl rfl rfl ?_
        refine zn_getf hB zd215_201 rfl rfl (fun q201 r201 => ?_)
        refine hret _ _ _ _ _ zd215_204 trivial ⟨_, _, _, _, _, _, _, _, _, _, _, _, _, _, _, _, _, _, _, _, _, _, rfl, rfl, rfl, ⟨D1, cm1, e1.1.1, ?_, fun k k1 k2 => zp_q_cg (e1.2.1 k k1 k2) (e5 k k1 k2), e3, e4, fun q q1 q2 => ?_⟩, by omega, by omega⟩
        · have := e1.1
          have := zp_pn_nn (w := w1) (a := 0)
          omega
        · obtain ⟨y1, y2, y3⟩ := e8 q q1 (by omega)
          rw [y1, y2, y3]
          exact e2 q q1 q2
      · refine zn_ald hB zd215_146 rfl rfl rfl ?_
        refine zn_getr hB zd215_147 rfl ?_
        refine zn_ild hB zd215_150 rfl rfl ?_
        refine zn_ald hB zd215_151 rfl rfl rfl ?_
        refine zn_getr hB zd215_152 rfl ?_
        refine zn_ild hB zd215_155 rfl rfl ?_
        refine zn_iald hB zd215_156 rfl rfl (by omega) (by omega) (fun q156 r156 => ?_)
        refine zn_iast hB zd215_157 rfl rfl (by omega) (by omega) ?_
        refine zn_ald hB zd215_158 rfl rfl rfl ?_
        refine zn_getr hB zd215_159 rfl ?_
        refine zn_ild hB zd215_162 rfl rfl ?_
        refine zn_ald hB zd215_163 rfl rfl rfl ?_
        refine zn_getr hB zd215_164 rfl ?_
        refine zn_ild hB zd215_167 rfl rfl ?_
        refine zn_iald hB zd215_168 rfl rfl (by omega) (by omega) (fun q168 r168 => ?_)
        refine zn_iast hB zd215_169 rfl rfl (by omega) (by omega) ?_
        refine zn_ald hB zd215_170 rfl rfl rfl ?_
        refine zn_getr hB zd215_171 rfl ?_
        refine zn_ild hB zd215_174 rfl rfl ?_
        refine zn_ald hB zd215_175 rfl rfl rfl ?_
        refine zn_getr hB zd215_176 rfl ?_
        refine zn_ild hB zd215_179 rfl rfl ?_
        refine zn_iald hB zd215_180 rfl rfl (by omega) (by omega) (fun q180 r180 => ?_)
        refine zn_iast hB zd215_181 rfl rfl (by omega) (by omega) ?_
        refine zn_ald hB zd215_182 rfl rfl rfl ?_
        refine zn_getr hB zd215_183 rfl ?_
        refine zn_ild hB zd215_186 rfl rfl ?_
        refine zn_ald hB zd215_187 rfl rfl rfl ?_
        refine zn_getr hB zd215_188 rfl ?_
        refine zn_ild hB zd215_191 rfl rfl ?_
        refine zn_iald hB zd215_192 rfl rfl (by omega) (by omega) (fun q192 r192 => ?_)
        refine zn_iast hB zd215_193 rfl rfl (by omega) (by omega) ?_
        refine zn_iinc hB zd215_194 rfl rfl (by omega) (by omega) ?_
        refine zn_goto hB zd215_197 rfl ?_
        refine ih _ _ _ _ _ _ _ _ _ _ _ _ _ _ _ _ _ _ _ _ e1 e2 e3 e4 e5 (by omega) (by omega) (fun i i1 i2 => ?_) (by omega)
        by_cases e : i = k
        · rw [e]; exact ⟨zn_up_s, zn_up_s, zn_up_s⟩
        · rw [zn_up_n e, zn_up_n e, zn_up_n e]; exact e8 i i1 (by omega)
  have one : ∀ (m : Nat) (k : Int) (pl1 fl1 op1 cm1 wt1 nb1 sm1 : Int) (D1 said1 w1 sl1 sf1 sh1 st1 codes1 co1 cf1 ch1 ct1 : Int → Int), zp_s 0 D1 said1 w1 pl1 n cm1 0 1 → zp_cl D1 sf1 sh1 st1 cm1 sm1 → 0 ≤ sm1 → sm1 ≤ 14 → (∀ i, 0 ≤ i → i < k → codes1 i = said1 i) → 0 ≤ k → k ≤ cm1 → cm1 - k < m → good 110 [.inr 0, .inl n, .inl 1, .inl k] [] (pl1 :: n :: fl1 :: op1 :: cm1 :: wt1 :: nb1 :: sm1 :: 0 :: sm1 :: Fr) (tape :: said1 :: w1 :: sl1 :: sf1 :: sh1 :: st1 :: codes1 :: co1 :: cf1 :: ch1 :: ct1 :: Gr) := by
    intro m
    induction m with
    | zero =>
      intro k pl1 fl1 op1 cm1 wt1 nb1 sm1 D1 said1 w1 sl1 sf1 sh1 st1 codes1 co1 cf1 ch1 ct1 e1 e2 e3 e4 e5 e6 e7 e8
      exfalso; omega
    | succ m ih =>
      intro k pl1 fl1 op1 cm1 wt1 nb1 sm1 D1 said1 w1 sl1 sf1 sh1 st1 codes1 co1 cf1 ch1 ct1 e1 e2 e3 e4 e5 e6 e7 e8
      have hb := e1.1
      have hpn := zp_pn_nn (w := w1) (a := 0)
      refine zn_ild hB zd215_110 rfl rfl ?_
      refine zn_ald hB zd215_111 rfl rfl rfl ?_
      refine zn_getf hB zd215_112 rfl rfl (fun q112 r112 => ?_)
      refine zn_cge hB zd215_115 rfl (fun h115 => ?_) (fun h115 => ?_)
      · refine zn_con hB zd215_136 rfl ?_
        refine zn_ist hB zd215_137 rfl rfl rfl ?_
        exact two (sm1.toNat + 1) 0 _ _ _ _ _ _ _ _ _ _ _ _ _ _ _ _ _ _ _ e1 e2 e3 e4 (fun i i1 i2 => e5 i i1 (by omega)) (by omega) e3 (fun i i1 i2 => absurd i1 (by omega)) (by omega)
      · refine zn_ald hB zd215_118 rfl rfl rfl ?_
        refine zn_getr hB zd215_119 rfl ?_
        refine zn_ild hB zd215_122 rfl rfl ?_
        refine zn_ald hB zd215_123 rfl rfl rfl ?_
        refine zn_getr hB zd215_124 rfl ?_
        refine zn_ild hB zd215_127 rfl rfl ?_
        refine zn_iald hB zd215_128 rfl rfl (by omega) (by omega) (fun q128 r128 => ?_)
        refine zn_iast hB zd215_129 rfl rfl (by omega) (by omega) ?_
        refine zn_iinc hB zd215_130 rfl rfl (by omega) (by omega) ?_
        refine zn_goto hB zd215_133 rfl ?_
        refine ih _ _ _ _ _ _ _ _ _ _ _ _ _ _ _ _ _ _ _ _ e1 e2 e3 e4 (fun i i1 i2 => ?_) (by omega) (by omega) (by omega)
        by_cases e : i = k
        · rw [e]; exact zn_up_s
        · rw [zn_up_n e]; exact e5 i i1 (by omega)
  have key : ∀ (m : Nat) (x : zNV) (pl1 fl1 op1 cm1 wt1 nb1 sm1 tp1 : Int) (D1 said1 w1 sl1 sf1 sh1 st1 : Int → Int), zp_s 0 D1 said1 w1 pl1 n cm1 0 1 → zp_cl D1 sf1 sh1 st1 cm1 sm1 → 0 ≤ sm1 → sm1 ≤ 14 → n - pl1 < m → good 46 [.inr 0, .inl n, .inl 1, x] [] (pl1 :: n :: fl1 :: op1 :: cm1 :: wt1 :: nb1 :: sm1 :: tp1 :: cs :: Fr) (tape :: said1 :: w1 :: sl1 :: sf1 :: sh1 :: st1 :: codes :: co :: cf :: ch :: ct :: Gr) := by
    intro m
    induction m with
    | zero =>
      intro x pl1 fl1 op1 cm1 wt1 nb1 sm1 tp1 D1 said1 w1 sl1 sf1 sh1 st1 e1 e2 e3 e4 e5
      have := e1.1
      exfalso; omega
    | succ m ih =>
      intro x pl1 fl1 op1 cm1 wt1 nb1 sm1 tp1 D1 said1 w1 sl1 sf1 sh1 st1 e1 e2 e3 e4 e5
      obtain ⟨b1, b2, b3, b4, b5, b6, b7, b8⟩ := e1.1
      have hpn := zp_pn_nn (w := w1) (a := 0)
      refine zn_ild hB zd215_46 rfl rfl ?_
      refine zn_zeq hB zd215_47 rfl (fun h47 => ?_) (fun h47 => ?_)
      · exfalso; omega
      · refine zn_ald hB zd215_50 rfl rfl rfl ?_
        refine zn_getf hB zd215_51 rfl rfl (fun q51 r51 => ?_)
        refine zn_ald hB zd215_54 rfl rfl rfl ?_
        refine zn_getf hB zd215_55 rfl rfl (fun q55 r55 => ?_)
        refine zn_cge hB zd215_58 rfl (fun h58 => ?_) (fun h58 => ?_)
        · refine zn_ald hB zd215_86 rfl rfl rfl ?_
          refine zn_con hB zd215_87 rfl ?_
          refine zn_putf hB zd215_88 rfl rfl (fun h => by cases h) rfl ?_
          refine zn_ild hB zd215_91 rfl rfl ?_
          refine zn_zne hB zd215_92 rfl (fun h92 => ?_) (fun h92 => ?_)
          · refine zn_ald hB zd215_100 rfl rfl rfl ?_
            refine zn_ald hB zd215_101 rfl rfl rfl ?_
            refine zn_getf hB zd215_102 rfl rfl (fun q102 r102 => ?_)
            refine zn_putf hB zd215_105 rfl rfl (fun h => by cases h) rfl ?_
            refine zn_con hB zd215_108 rfl ?_
            refine zn_ist hB zd215_109 rfl rfl rfl ?_
            exact one (cm1.toNat + 1) 0 _ _ _ _ _ _ _ _ _ _ _ _ _ _ _ _ _ _ _ e1 e2 e3 e4 (fun i i1 i2 => absurd i1 (by omega)) (by omega) b1 (by omega)
          · exfalso; omega
        · refine zn_ald hB zd215_61 rfl rfl rfl ?_
          refine zn_con hB zd215_62 rfl ?_
          refine zn_iv1 hB (zh236 (pl := pl1) (len := n) (tape := tape)) zd215_64 zxt236 rfl ⟨rfl, rfl, rfl, by omega, by omega, by omega⟩ (fun r64 F64 G64 hq64 => ?_)
          rcases hq64 with ⟨rfl, f0, rfl, rfl⟩ | ⟨rfl, rfl, rfl, y1⟩
          · refine zn_zeq hB zd215_67 rfl (fun h67 => ?_) (fun h67 => ?_)
            · refine zn_con hB zd215_81 rfl ?_
              refine zn_ist hB zd215_82 rfl rfl rfl ?_
              refine zn_goto hB zd215_83 rfl ?_
              first | exact low _ _ _ _ _ _ _ _ _ _ _ _ _ _ _ | exact ih _ _ _ _ _ _ _ _ _ _ _ _ _ _ _ _ k1 k2 (by omega) k3 (by omega)
            · exfalso; omega
          · refine zn_zeq hB zd215_67 rfl (fun h67 => ?_) (fun h67 => ?_)
            · exfalso; omega
            · refine zn_ald hB zd215_70 rfl rfl rfl ?_
              refine zn_iv0 hB (zh216 (D := D1) (said := said1) (w := w1) (pl := pl1 + 1) (cm := cm1) (d := 1) (len := n) (sm := sm1)) zd215_71 zxt216 rfl ⟨rfl, rfl, rfl, e3, e4, zp_on e1 (by omega) (by omega), e2⟩ (fun r71 F71 G71 hq71 => ?_)
              rcases hq71 with ⟨rfl, p0, f0, o0, c0, w0, n0, m0, s0, t0, l0, sf0, sh0, st0, rfl, rfl⟩ | ⟨rfl, D2, said2, w2, pl2, op2, cm2, wt2, nb2, sl2, sf2, sh2, st2, rfl, rfl, k1, k2, k3, k4⟩
              · refine zn_zeq hB zd215_74 rfl (fun h74 => ?_) (fun h74 => ?_)
                · refine zn_con hB zd215_81 rfl ?_
                  refine zn_ist hB zd215_82 rfl rfl rfl ?_
                  refine zn_goto hB zd215_83 rfl ?_
                  first | exact low _ _ _ _ _ _ _ _ _ _ _ _ _ _ _ | exact ih _ _ _ _ _ _ _ _ _ _ _ _ _ _ _ _ k1 k2 (by omega) k3 (by omega)
                · exfalso; omega
              · refine zn_zeq hB zd215_74 rfl (fun h74 => ?_) (fun h74 => ?_)
                · exfalso; omega
                · refine zn_con hB zd215_77 rfl ?_
                  refine zn_goto hB zd215_78 rfl ?_
                  refine zn_ist hB zd215_82 rfl rfl rfl ?_
                  refine zn_goto hB zd215_83 rfl ?_
                  first | exact low _ _ _ _ _ _ _ _ _ _ _ _ _ _ _ | exact ih _ _ _ _ _ _ _ _ _ _ _ _ _ _ _ _ k1 k2 (by omega) k3 (by omega)
  refine zn_ild hB zd215_0 rfl rfl ?_
  refine zn_con hB zd215_1 rfl ?_
  refine zn_con hB zd215_2 rfl ?_
  refine zn_it3 hB zh200 zd215_5 zxt200 rfl rfl (fun r5 F5 G5 hq5 => ?_)
  obtain ⟨rfl, rfl, hx⟩ := hq5
  rcases hx with ⟨rfl, x1, x2⟩ | ⟨rfl, x1⟩
  · refine zn_zeq hB zd215_8 rfl (fun h8 => ?_) (fun h8 => ?_)
    · exfalso; omega
    · refine zn_ild hB zd215_11 rfl rfl ?_
      refine zn_ald hB zd215_12 rfl rfl rfl ?_
      refine zn_getf hB zd215_13 rfl rfl (fun q13 r13 => ?_)
      refine zn_cle hB zd215_16 rfl (fun h16 => ?_) (fun h16 => ?_)
      · refine zn_ald hB zd215_21 rfl rfl rfl ?_
        refine zn_con hB zd215_22 rfl ?_
        refine zn_putf hB zd215_23 rfl rfl (fun h => by cases h) rfl ?_
        refine zn_ald hB zd215_26 rfl rfl rfl ?_
        refine zn_ild hB zd215_27 rfl rfl ?_
        refine zn_putf hB zd215_28 rfl rfl (fun h => by cases h) rfl ?_
        refine zn_ald hB zd215_31 rfl rfl rfl ?_
        refine zn_con hB zd215_32 rfl ?_
        refine zn_putf hB zd215_33 rfl rfl (fun h => by cases h) rfl ?_
        refine zn_ald hB zd215_36 rfl rfl rfl ?_
        refine zn_con hB zd215_37 rfl ?_
        refine zn_putf hB zd215_38 rfl rfl (fun h => by cases h) rfl ?_
        refine zn_ald hB zd215_41 rfl rfl rfl ?_
        refine zn_iv0 hB (zh216 (D := fun _ => 0) (said := said) (w := w) (pl := 0) (cm := 0) (d := 0) (len := n) (sm := 0)) zd215_42 zxt216 rfl ⟨rfl, rfl, rfl, Int.le_refl _, by omega, zp_s_0 x1 x2, fun q q1 q2 => absurd q1 (by omega)⟩ (fun r42 F42 G42 hq42 => ?_)
        rcases hq42 with ⟨rfl, p0, f0, o0, c0, w0, n0, m0, s0, t0, l0, sf0, sh0, st0, rfl, rfl⟩ | ⟨rfl, D2, said2, w2, pl2, op2, cm2, wt2, nb2, sl2, sf2, sh2, st2, rfl, rfl, k1, k2, k3, k4⟩
        · refine zn_ist hB zd215_45 rfl rfl rfl ?_
          first | exact low _ _ _ _ _ _ _ _ _ _ _ _ _ _ _ | exact key (n.toNat + 1) _ _ _ _ _ _ _ _ _ _ _ _ _ _ _ _ k1 k2 (by omega) k3 (by have := k1.1; omega)
        · refine zn_ist hB zd215_45 rfl rfl rfl ?_
          first | exact low _ _ _ _ _ _ _ _ _ _ _ _ _ _ _ | exact key (n.toNat + 1) _ _ _ _ _ _ _ _ _ _ _ _ _ _ _ _ k1 k2 (by omega) k3 (by have := k1.1; omega)
      · refine zn_con hB zd215_19 rfl ?_
        exact hret _ _ _ _ _ zd215_20 trivial ⟨_, _, _, _, _, _, _, _, _, _, _, _, _, _, _, _, _, _, _, _, _, _, rfl, rfl, rfl, hJ, by omega, by omega⟩
  · refine zn_zeq hB zd215_8 rfl (fun h8 => ?_) (fun h8 => ?_)
    · refine zn_con hB zd215_19 rfl ?_
      exact hret _ _ _ _ _ zd215_20 trivial ⟨_, _, _, _, _, _, _, _, _, _, _, _, _, _, _, _, _, _, _, _, _, _, rfl, rfl, rfl, hJ, by omega, by omega⟩
    · exfalso; omega
end ZREAD7
