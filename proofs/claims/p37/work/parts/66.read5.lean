/-! The reading of laws: a whole condition, a clause. -/
section ZREAD5
variable {e0 : Nat} {pl len fl op cm wt nb d : Int} {tape said w D : Int → Int} {Fr : List Int} {Gr : List (Int → Int)}
theorem zd231_0 : decode zxm231.2.1 0 = .ok (.aload_n 0, 1) := by decide +kernel
theorem zd231_1 : decode zxm231.2.1 1 = .ok (.invokevirtual 182, 3) := by decide +kernel
theorem zd231_4 : decode zxm231.2.1 4 = .ok (.bipush 40, 2) := by decide +kernel
theorem zd231_6 : decode zxm231.2.1 6 = .ok (.if_icmp .eq 13, 3) := by decide +kernel
theorem zd231_9 : decode zxm231.2.1 9 = .ok (.aload_n 0, 1) := by decide +kernel
theorem zd231_10 : decode zxm231.2.1 10 = .ok (.iconst 1, 1) := by decide +kernel
theorem zd231_11 : decode zxm231.2.1 11 = .ok (.aload_n 0, 1) := by decide +kernel
theorem zd231_12 : decode zxm231.2.1 12 = .ok (.getfield 176, 3) := by decide +kernel
theorem zd231_15 : decode zxm231.2.1 15 = .ok (.invokevirtual 189, 3) := by decide +kernel
theorem zd231_18 : decode zxm231.2.1 18 = .ok (.ireturn, 1) := by decide +kernel
theorem zd231_19 : decode zxm231.2.1 19 = .ok (.aload_n 0, 1) := by decide +kernel
theorem zd231_20 : decode zxm231.2.1 20 = .ok (.iconst 0, 1) := by decide +kernel
theorem zd231_21 : decode zxm231.2.1 21 = .ok (.putfield 203, 3) := by decide +kernel
theorem zd231_24 : decode zxm231.2.1 24 = .ok (.aload_n 0, 1) := by decide +kernel
theorem zd231_25 : decode zxm231.2.1 25 = .ok (.iconst 0, 1) := by decide +kernel
theorem zd231_26 : decode zxm231.2.1 26 = .ok (.putfield 206, 3) := by decide +kernel
theorem zd231_29 : decode zxm231.2.1 29 = .ok (.aload_n 0, 1) := by decide +kernel
theorem zd231_30 : decode zxm231.2.1 30 = .ok (.bipush 13, 2) := by decide +kernel
theorem zd231_32 : decode zxm231.2.1 32 = .ok (.invokevirtual 216, 3) := by decide +kernel
theorem zd231_35 : decode zxm231.2.1 35 = .ok (.ifCond .ne 5, 3) := by decide +kernel
theorem zd231_38 : decode zxm231.2.1 38 = .ok (.iconst 0, 1) := by decide +kernel
theorem zd231_39 : decode zxm231.2.1 39 = .ok (.ireturn, 1) := by decide +kernel
theorem zd231_40 : decode zxm231.2.1 40 = .ok (.aload_n 0, 1) := by decide +kernel
theorem zd231_41 : decode zxm231.2.1 41 = .ok (.invokevirtual 182, 3) := by decide +kernel
theorem zd231_44 : decode zxm231.2.1 44 = .ok (.bipush 33, 2) := by decide +kernel
theorem zd231_46 : decode zxm231.2.1 46 = .ok (.if_icmp .eq 12, 3) := by decide +kernel
theorem zd231_49 : decode zxm231.2.1 49 = .ok (.aload_n 0, 1) := by decide +kernel
theorem zd231_50 : decode zxm231.2.1 50 = .ok (.invokevirtual 182, 3) := by decide +kernel
theorem zd231_53 : decode zxm231.2.1 53 = .ok (.bipush 40, 2) := by decide +kernel
theorem zd231_55 : decode zxm231.2.1 55 = .ok (.if_icmp .ne 28, 3) := by decide +kernel
theorem zd231_58 : decode zxm231.2.1 58 = .ok (.aload_n 0, 1) := by decide +kernel
theorem zd231_59 : decode zxm231.2.1 59 = .ok (.aload_n 0, 1) := by decide +kernel
theorem zd231_60 : decode zxm231.2.1 60 = .ok (.invokevirtual 182, 3) := by decide +kernel
theorem zd231_63 : decode zxm231.2.1 63 = .ok (.bipush 33, 2) := by decide +kernel
theorem zd231_65 : decode zxm231.2.1 65 = .ok (.if_icmp .ne 8, 3) := by decide +kernel
theorem zd231_68 : decode zxm231.2.1 68 = .ok (.bipush 10, 2) := by decide +kernel
theorem zd231_70 : decode zxm231.2.1 70 = .ok (.goto 5, 3) := by decide +kernel
theorem zd231_73 : decode zxm231.2.1 73 = .ok (.bipush 13, 2) := by decide +kernel
theorem zd231_75 : decode zxm231.2.1 75 = .ok (.invokevirtual 216, 3) := by decide +kernel
theorem zd231_78 : decode zxm231.2.1 78 = .ok (.ifCond .ne (-38), 3) := by decide +kernel
theorem zd231_81 : decode zxm231.2.1 81 = .ok (.iconst 0, 1) := by decide +kernel
theorem zd231_82 : decode zxm231.2.1 82 = .ok (.ireturn, 1) := by decide +kernel
theorem zd231_83 : decode zxm231.2.1 83 = .ok (.aload_n 0, 1) := by decide +kernel
theorem zd231_84 : decode zxm231.2.1 84 = .ok (.invokevirtual 244, 3) := by decide +kernel
theorem zd231_87 : decode zxm231.2.1 87 = .ok (.ifCond .ne 5, 3) := by decide +kernel
theorem zd231_90 : decode zxm231.2.1 90 = .ok (.iconst 0, 1) := by decide +kernel
theorem zd231_91 : decode zxm231.2.1 91 = .ok (.ireturn, 1) := by decide +kernel
theorem zd231_92 : decode zxm231.2.1 92 = .ok (.aload_n 0, 1) := by decide +kernel
theorem zd231_93 : decode zxm231.2.1 93 = .ok (.invokevirtual 182, 3) := by decide +kernel
theorem zd231_96 : decode zxm231.2.1 96 = .ok (.bipush 41, 2) := by decide +kernel
theorem zd231_98 : decode zxm231.2.1 98 = .ok (.if_icmp .ne 54, 3) := by decide +kernel
theorem zd231_101 : decode zxm231.2.1 101 = .ok (.aload_n 0, 1) := by decide +kernel
theorem zd231_102 : decode zxm231.2.1 102 = .ok (.iconst 1, 1) := by decide +kernel
theorem zd231_103 : decode zxm231.2.1 103 = .ok (.invokevirtual 247, 3) := by decide +kernel
theorem zd231_106 : decode zxm231.2.1 106 = .ok (.aload_n 0, 1) := by decide +kernel
theorem zd231_107 : decode zxm231.2.1 107 = .ok (.aload_n 0, 1) := by decide +kernel
theorem zd231_108 : decode zxm231.2.1 108 = .ok (.getfield 206, 3) := by decide +kernel
theorem zd231_111 : decode zxm231.2.1 111 = .ok (.iconst 1, 1) := by decide +kernel
theorem zd231_112 : decode zxm231.2.1 112 = .ok (.isub, 1) := by decide +kernel
theorem zd231_113 : decode zxm231.2.1 113 = .ok (.putfield 206, 3) := by decide +kernel
theorem zd231_116 : decode zxm231.2.1 116 = .ok (.aload_n 0, 1) := by decide +kernel
theorem zd231_117 : decode zxm231.2.1 117 = .ok (.aload_n 0, 1) := by decide +kernel
theorem zd231_118 : decode zxm231.2.1 118 = .ok (.getfield 203, 3) := by decide +kernel
theorem zd231_121 : decode zxm231.2.1 121 = .ok (.iconst 1, 1) := by decide +kernel
theorem zd231_122 : decode zxm231.2.1 122 = .ok (.isub, 1) := by decide +kernel
theorem zd231_123 : decode zxm231.2.1 123 = .ok (.putfield 203, 3) := by decide +kernel
theorem zd231_126 : decode zxm231.2.1 126 = .ok (.aload_n 0, 1) := by decide +kernel
theorem zd231_127 : decode zxm231.2.1 127 = .ok (.aload_n 0, 1) := by decide +kernel
theorem zd231_128 : decode zxm231.2.1 128 = .ok (.getfield 176, 3) := by decide +kernel
theorem zd231_131 : decode zxm231.2.1 131 = .ok (.iconst 1, 1) := by decide +kernel
theorem zd231_132 : decode zxm231.2.1 132 = .ok (.iadd, 1) := by decide +kernel
theorem zd231_133 : decode zxm231.2.1 133 = .ok (.putfield 176, 3) := by decide +kernel
theorem zd231_136 : decode zxm231.2.1 136 = .ok (.aload_n 0, 1) := by decide +kernel
theorem zd231_137 : decode zxm231.2.1 137 = .ok (.getfield 206, 3) := by decide +kernel
theorem zd231_140 : decode zxm231.2.1 140 = .ok (.ifCond .ne 5, 3) := by decide +kernel
theorem zd231_143 : decode zxm231.2.1 143 = .ok (.iconst 1, 1) := by decide +kernel
theorem zd231_144 : decode zxm231.2.1 144 = .ok (.ireturn, 1) := by decide +kernel
theorem zd231_145 : decode zxm231.2.1 145 = .ok (.aload_n 0, 1) := by decide +kernel
theorem zd231_146 : decode zxm231.2.1 146 = .ok (.invokevirtual 241, 3) := by decide +kernel
theorem zd231_149 : decode zxm231.2.1 149 = .ok (.goto (-57), 3) := by decide +kernel
theorem zd231_152 : decode zxm231.2.1 152 = .ok (.aload_n 0, 1) := by decide +kernel
theorem zd231_153 : decode zxm231.2.1 153 = .ok (.invokevirtual 182, 3) := by decide +kernel
theorem zd231_156 : decode zxm231.2.1 156 = .ok (.bipush 38, 2) := by decide +kernel
theorem zd231_158 : decode zxm231.2.1 158 = .ok (.if_icmp .eq 22, 3) := by decide +kernel
theorem zd231_161 : decode zxm231.2.1 161 = .ok (.aload_n 0, 1) := by decide +kernel
theorem zd231_162 : decode zxm231.2.1 162 = .ok (.invokevirtual 182, 3) := by decide +kernel
theorem zd231_165 : decode zxm231.2.1 165 = .ok (.bipush 124, 2) := by decide +kernel
theorem zd231_167 : decode zxm231.2.1 167 = .ok (.if_icmp .eq 13, 3) := by decide +kernel
theorem zd231_170 : decode zxm231.2.1 170 = .ok (.aload_n 0, 1) := by decide +kernel
theorem zd231_171 : decode zxm231.2.1 171 = .ok (.iconst 1, 1) := by decide +kernel
theorem zd231_172 : decode zxm231.2.1 172 = .ok (.aload_n 0, 1) := by decide +kernel
theorem zd231_173 : decode zxm231.2.1 173 = .ok (.getfield 176, 3) := by decide +kernel
theorem zd231_176 : decode zxm231.2.1 176 = .ok (.invokevirtual 189, 3) := by decide +kernel
theorem zd231_179 : decode zxm231.2.1 179 = .ok (.ireturn, 1) := by decide +kernel
theorem zd231_180 : decode zxm231.2.1 180 = .ok (.aload_n 0, 1) := by decide +kernel
theorem zd231_181 : decode zxm231.2.1 181 = .ok (.aload_n 0, 1) := by decide +kernel
theorem zd231_182 : decode zxm231.2.1 182 = .ok (.invokevirtual 182, 3) := by decide +kernel
theorem zd231_185 : decode zxm231.2.1 185 = .ok (.bipush 124, 2) := by decide +kernel
theorem zd231_187 : decode zxm231.2.1 187 = .ok (.if_icmp .ne 7, 3) := by decide +kernel
theorem zd231_190 : decode zxm231.2.1 190 = .ok (.iconst 1, 1) := by decide +kernel
theorem zd231_191 : decode zxm231.2.1 191 = .ok (.goto 4, 3) := by decide +kernel
theorem zd231_194 : decode zxm231.2.1 194 = .ok (.iconst 0, 1) := by decide +kernel
theorem zd231_195 : decode zxm231.2.1 195 = .ok (.invokevirtual 247, 3) := by decide +kernel
theorem zd231_198 : decode zxm231.2.1 198 = .ok (.aload_n 0, 1) := by decide +kernel
theorem zd231_199 : decode zxm231.2.1 199 = .ok (.aload_n 0, 1) := by decide +kernel
theorem zd231_200 : decode zxm231.2.1 200 = .ok (.invokevirtual 182, 3) := by decide +kernel
theorem zd231_203 : decode zxm231.2.1 203 = .ok (.bipush 38, 2) := by decide +kernel
theorem zd231_205 : decode zxm231.2.1 205 = .ok (.if_icmp .ne 8, 3) := by decide +kernel
theorem zd231_208 : decode zxm231.2.1 208 = .ok (.bipush 11, 2) := by decide +kernel
theorem zd231_210 : decode zxm231.2.1 210 = .ok (.goto 5, 3) := by decide +kernel
theorem zd231_213 : decode zxm231.2.1 213 = .ok (.bipush 12, 2) := by decide +kernel
theorem zd231_215 : decode zxm231.2.1 215 = .ok (.invokevirtual 250, 3) := by decide +kernel
theorem zd231_218 : decode zxm231.2.1 218 = .ok (.goto (-178), 3) := by decide +kernel
theorem zh231  : zn_OK z_TB z_cl z_KX zyM zxm231 (6, 360) (fun va F G => va = [.inr 0] ∧ F = pl :: len :: fl :: op :: cm :: wt :: nb :: Fr ∧ G = tape :: said :: w :: Gr ∧ zp_s e0 D said w pl len cm 0 0) (fun va F G r F' G' => (r = some 0 ∧ zp_no len tape Fr Gr F' G') ∨ (r = some 1 ∧ ∃ D' said' w' pl' op' cm' nb', F' = pl' :: len :: fl :: op' :: cm' :: 0 :: nb' :: Fr ∧ G' = tape :: said' :: w' :: Gr ∧ zp_s e0 D' said' w' pl' len cm' 0 1 ∧ (∀ k, k ≤ cm → D' k = D k) ∧ cm ≤ cm' ∧ pl < pl')) := zn_meth (K := zkM) (FT := z_FT) (MT := z_MT) (n := 1) zxp231 (z_ks13 _ (fun _ h => List.mem_cons_of_mem _ h) _ _ _ _ (fun j r h _ => by cases h)) (fun _ _ => zs_KX_p) (by decide +kernel) (fun va F G h => by obtain ⟨rfl, _⟩ := h; rfl) rfl fun good va F G hB hret hvret hP => by
  obtain ⟨rfl, rfl, rfl, hs⟩ := hP
  obtain ⟨a1, a2, a3, a4, a5, a6, a7, a8⟩ := hs.1
  have key : ∀ (n : Nat), (∀ (D1 said1 w1 : Int → Int) (pl1 op1 cm1 wt1 nb1 : Int), zp_s e0 D1 said1 w1 pl1 len cm1 wt1 0 → zp_cd w1 wt1 → (∀ k, k ≤ cm → D1 k = D k) → cm ≤ cm1 → pl < pl1 → len - pl1 < n → good 40 [.inr 0] [] (pl1 :: len :: fl :: op1 :: cm1 :: wt1 :: nb1 :: Fr) (tape :: said1 :: w1 :: Gr)) ∧ (∀ (D1 said1 w1 : Int → Int) (pl1 op1 cm1 wt1 nb1 : Int), zp_s e0 D1 said1 w1 pl1 len cm1 wt1 1 → zp_cd w1 wt1 → (∀ k, k ≤ cm → D1 k = D k) → cm ≤ cm1 → pl < pl1 → len - pl1 < n → good 92 [.inr 0] [] (pl1 :: len :: fl :: op1 :: cm1 :: wt1 :: nb1 :: Fr) (tape :: said1 :: w1 :: Gr)) := by
    intro n
    induction n with
    | zero =>
      constructor
      · intro D1 said1 w1 pl1 op1 cm1 wt1 nb1 h1 hc hD hcm hpl hn
        have := h1.1
        exfalso; omega
      · intro D1 said1 w1 pl1 op1 cm1 wt1 nb1 h1 hc hD hcm hpl hn
        have := h1.1
        exfalso; omega
    | succ n ih =>
      constructor
      · intro D1 said1 w1 pl1 op1 cm1 wt1 nb1 h1 hc hD hcm hpl hn
        obtain ⟨b1, b2, b3, b4, b5, b6, b7, b8⟩ := h1.1
        have hpn := zp_pn_nn (w := w1) (a := wt1)
        have hc1 := hc.1
        refine zn_ald hB zd231_40 rfl rfl rfl ?_
        refine zn_iv0 hB (zh217 (pl := pl1) (len := len) (tape := tape)) zd231_41 zxt217 rfl ⟨rfl, rfl, rfl, by omega, by omega⟩ (fun r41 F41 G41 hq41 => ?_)
        obtain ⟨rfl, rfl, rfl⟩ := hq41
        refine zn_con hB zd231_44 rfl ?_
        refine zn_ceq hB zd231_46 rfl (fun h46 => ?_) (fun h46 => ?_)
        · have hlt := zp_h_lt (tape := tape) (pl := pl1) (len := len) (by omega)
          refine zn_ald hB zd231_58 rfl rfl rfl ?_
          refine zn_ald hB zd231_59 rfl rfl rfl ?_
          refine zn_iv0 hB (zh217 (pl := pl1) (len := len) (tape := tape)) zd231_60 zxt217 rfl ⟨rfl, rfl, rfl, by omega, by omega⟩ (fun r60 F60 G60 hq60 => ?_)
          obtain ⟨rfl, rfl, rfl⟩ := hq60
          refine zn_con hB zd231_63 rfl ?_
          refine zn_cne hB zd231_65 rfl (fun h65 => ?_) (fun h65 => ?_)
          · refine zn_con hB zd231_73 rfl ?_
            refine zn_iv1 hB (zh222 (pl := pl1) (wt := wt1) (w := w1)) zd231_75 zxt222 rfl ⟨rfl, rfl, rfl, by omega, by omega, by omega, by omega, by omega, by omega⟩ (fun r75 F75 G75 hq75 => ?_)
            rcases hq75 with ⟨rfl, f0, rfl, rfl⟩ | ⟨rfl, op2, rfl, rfl⟩
            · refine zn_zne hB zd231_78 rfl (fun h78 => ?_) (fun h78 => ?_)
              · exfalso; omega
              · refine zn_con hB zd231_81 rfl ?_
                exact hret _ _ _ _ _ zd231_82 (by constructor <;> decide) (Or.inl ⟨rfl, _, _, _, _, _, _, _, _, rfl, rfl⟩)
            · refine zn_zne hB zd231_78 rfl (fun h78 => ?_) (fun h78 => ?_)
              · have hz := zp_push (pl2 := pl1 + 1) (x := 1048576 * 13) h1 (by omega) (by rw [if_neg (by omega)]; omega)
                exact ih.1 _ _ _ _ _ _ _ _ hz (zp_cd_up hc (by omega)) hD hcm (by omega) (by omega)
              · exfalso; omega
          · refine zn_con hB zd231_68 rfl ?_
            refine zn_goto hB zd231_70 rfl ?_
            refine zn_iv1 hB (zh222 (pl := pl1) (wt := wt1) (w := w1)) zd231_75 zxt222 rfl ⟨rfl, rfl, rfl, by omega, by omega, by omega, by omega, by omega, by omega⟩ (fun r75 F75 G75 hq75 => ?_)
            rcases hq75 with ⟨rfl, f0, rfl, rfl⟩ | ⟨rfl, op2, rfl, rfl⟩
            · refine zn_zne hB zd231_78 rfl (fun h78 => ?_) (fun h78 => ?_)
              · exfalso; omega
              · refine zn_con hB zd231_81 rfl ?_
                exact hret _ _ _ _ _ zd231_82 (by constructor <;> decide) (Or.inl ⟨rfl, _, _, _, _, _, _, _, _, rfl, rfl⟩)
            · refine zn_zne hB zd231_78 rfl (fun h78 => ?_) (fun h78 => ?_)
              · have hz := zp_push (pl2 := pl1 + 1) (x := 1048576 * 10) h1 (by omega) (by rw [if_pos (by omega)]; omega)
                exact ih.1 _ _ _ _ _ _ _ _ hz (zp_cd_up hc (by omega)) hD hcm (by omega) (by omega)
              · exfalso; omega
        · refine zn_ald hB zd231_49 rfl rfl rfl ?_
          refine zn_iv0 hB (zh217 (pl := pl1) (len := len) (tape := tape)) zd231_50 zxt217 rfl ⟨rfl, rfl, rfl, by omega, by omega⟩ (fun r50 F50 G50 hq50 => ?_)
          obtain ⟨rfl, rfl, rfl⟩ := hq50
          refine zn_con hB zd231_53 rfl ?_
          refine zn_cne hB zd231_55 rfl (fun h55 => ?_) (fun h55 => ?_)
          · refine zn_ald hB zd231_83 rfl rfl rfl ?_
            refine zn_iv0 hB (zh232 (e0 := e0) (D := D1) (said := said1) (w := w1) (pl := pl1) (cm := cm1) (wt := wt1) (d := 0) (len := len)) zd231_84 zxt232 rfl ⟨rfl, rfl, rfl, h1, zp_cd_low hc⟩ (fun r84 F84 G84 hq84 => ?_)
            rcases hq84 with ⟨rfl, p0, f0, o0, c0, w0, n0, s0, t0, rfl, rfl⟩ | ⟨rfl, D2, said2, w2, pl2, op2, cm2, wt2, nb2, rfl, rfl, k1, k2, k3, k4, k5, k6, k7⟩
            · refine zn_zne hB zd231_87 rfl (fun h87 => ?_) (fun h87 => ?_)
              · exfalso; omega
              · refine zn_con hB zd231_90 rfl ?_
                exact hret _ _ _ _ _ zd231_91 (by constructor <;> decide) (Or.inl ⟨rfl, _, _, _, _, _, _, _, _, rfl, rfl⟩)
            · refine zn_zne hB zd231_87 rfl (fun h87 => ?_) (fun h87 => ?_)
              · exact ih.2 _ _ _ _ _ _ _ _ k1 (zp_cd_cut hc k1.1.2.1 k4 k5 (fun i i1 i2 => by have := k6 i i1 i2; omega)) (fun k hk => by rw [k2 k (by omega), hD k hk]) (by omega) (by omega) (by omega)
              · exfalso; omega
          · have hlt := zp_h_lt (tape := tape) (pl := pl1) (len := len) (by omega)
            refine zn_ald hB zd231_58 rfl rfl rfl ?_
            refine zn_ald hB zd231_59 rfl rfl rfl ?_
            refine zn_iv0 hB (zh217 (pl := pl1) (len := len) (tape := tape)) zd231_60 zxt217 rfl ⟨rfl, rfl, rfl, by omega, by omega⟩ (fun r60 F60 G60 hq60 => ?_)
            obtain ⟨rfl, rfl, rfl⟩ := hq60
            refine zn_con hB zd231_63 rfl ?_
            refine zn_cne hB zd231_65 rfl (fun h65 => ?_) (fun h65 => ?_)
            · refine zn_con hB zd231_73 rfl ?_
              refine zn_iv1 hB (zh222 (pl := pl1) (wt := wt1) (w := w1)) zd231_75 zxt222 rfl ⟨rfl, rfl, rfl, by omega, by omega, by omega, by omega, by omega, by omega⟩ (fun r75 F75 G75 hq75 => ?_)
              rcases hq75 with ⟨rfl, f0, rfl, rfl⟩ | ⟨rfl, op2, rfl, rfl⟩
              · refine zn_zne hB zd231_78 rfl (fun h78 => ?_) (fun h78 => ?_)
                · exfalso; omega
                · refine zn_con hB zd231_81 rfl ?_
                  exact hret _ _ _ _ _ zd231_82 (by constructor <;> decide) (Or.inl ⟨rfl, _, _, _, _, _, _, _, _, rfl, rfl⟩)
              · refine zn_zne hB zd231_78 rfl (fun h78 => ?_) (fun h78 => ?_)
                · have hz := zp_push (pl2 := pl1 + 1) (x := 1048576 * 13) h1 (by omega) (by rw [if_neg (by omega)]; omega)
                  exact ih.1 _ _ _ _ _ _ _ _ hz (zp_cd_up hc (by omega)) hD hcm (by omega) (by omega)
                · exfalso; omega
            · refine zn_con hB zd231_68 rfl ?_
              refine zn_goto hB zd231_70 rfl ?_
              refine zn_iv1 hB (zh222 (pl := pl1) (wt := wt1) (w := w1)) zd231_75 zxt222 rfl ⟨rfl, rfl, rfl, by omega, by omega, by omega, by omega, by omega, by omega⟩ (fun r75 F75 G75 hq75 => ?_)
              rcases hq75 with ⟨rfl, f0, rfl, rfl⟩ | ⟨rfl, op2, rfl, rfl⟩
              · refine zn_zne hB zd231_78 rfl (fun h78 => ?_) (fun h78 => ?_)
                · exfalso; omega
                · refine zn_con hB zd231_81 rfl ?_
                  exact hret _ _ _ _ _ zd231_82 (by constructor <;> decide) (Or.inl ⟨rfl, _, _, _, _, _, _, _, _, rfl, rfl⟩)
              · refine zn_zne hB zd231_78 rfl (fun h78 => ?_) (fun h78 => ?_)
                · have hz := zp_push (pl2 := pl1 + 1) (x := 1048576 * 10) h1 (by omega) (by rw [if_pos (by omega)]; omega)
                  exact ih.1 _ _ _ _ _ _ _ _ hz (zp_cd_up hc (by omega)) hD hcm (by omega) (by omega)
                · exfalso; omega
      · intro D1 said1 w1 pl1 op1 cm1 wt1 nb1 h1 hc hD hcm hpl hn
        obtain ⟨b1, b2, b3, b4, b5, b6, b7, b8⟩ := h1.1
        have hpn := zp_pn_nn (w := w1) (a := wt1)
        have hc1 := hc.1
        refine zn_ald hB zd231_92 rfl rfl rfl ?_
        refine zn_iv0 hB (zh217 (pl := pl1) (len := len) (tape := tape)) zd231_93 zxt217 rfl ⟨rfl, rfl, rfl, by omega, by omega⟩ (fun r93 F93 G93 hq93 => ?_)
        obtain ⟨rfl, rfl, rfl⟩ := hq93
        refine zn_con hB zd231_96 rfl ?_
        refine zn_cne hB zd231_98 rfl (fun h98 => ?_) (fun h98 => ?_)
        · refine zn_ald hB zd231_152 rfl rfl rfl ?_
          refine zn_iv0 hB (zh217 (pl := pl1) (len := len) (tape := tape)) zd231_153 zxt217 rfl ⟨rfl, rfl, rfl, by omega, by omega⟩ (fun r153 F153 G153 hq153 => ?_)
          obtain ⟨rfl, rfl, rfl⟩ := hq153
          refine zn_con hB zd231_156 rfl ?_
          refine zn_ceq hB zd231_158 rfl (fun h158 => ?_) (fun h158 => ?_)
          · have hlt := zp_h_lt (tape := tape) (pl := pl1) (len := len) (by omega)
            refine zn_ald hB zd231_180 rfl rfl rfl ?_
            refine zn_ald hB zd231_181 rfl rfl rfl ?_
            refine zn_iv0 hB (zh217 (pl := pl1) (len := len) (tape := tape)) zd231_182 zxt217 rfl ⟨rfl, rfl, rfl, by omega, by omega⟩ (fun r182 F182 G182 hq182 => ?_)
            obtain ⟨rfl, rfl, rfl⟩ := hq182
            refine zn_con hB zd231_185 rfl ?_
            refine zn_cne hB zd231_187 rfl (fun h187 => ?_) (fun h187 => ?_)
            · refine zn_con hB zd231_194 rfl ?_
              refine zn_iv1 hB (zh234 (e0 := e0) (D := D1) (said := said1) (w := w1) (pl := pl1) (cm := cm1) (wt := wt1) (d := 1) (len := len)) zd231_195 zxt234 rfl ⟨rfl, rfl, rfl, h1, by omega⟩ (fun r195 F195 G195 hq195 => ?_)
              obtain ⟨rfl, said2, wt2, rfl, rfl, ⟨l1, l2, l3⟩, l4⟩ := hq195
              obtain ⟨c1, c2, c3, c4, c5, c6, c7, c8⟩ := l1.1
              have hc2 : zp_cd w1 wt2 := zp_cd_cut hc c2 l2 (fun _ _ => rfl) (fun i i1 i2 => by have := l3 i i1 i2; omega)
              have hc3 := hc2.1
              have hpn2 := zp_pn_nn (w := w1) (a := wt2)
              refine zn_ald hB zd231_198 rfl rfl rfl ?_
              refine zn_ald hB zd231_199 rfl rfl rfl ?_
              refine zn_iv0 hB (zh217 (pl := pl1) (len := len) (tape := tape)) zd231_200 zxt217 rfl ⟨rfl, rfl, rfl, by omega, by omega⟩ (fun r200 F200 G200 hq200 => ?_)
              obtain ⟨rfl, rfl, rfl⟩ := hq200
              refine zn_con hB zd231_203 rfl ?_
              refine zn_cne hB zd231_205 rfl (fun h205 => ?_) (fun h205 => ?_)
              · refine zn_con hB zd231_213 rfl ?_
                refine zn_iv1 hB (zh235 (cm := cm1) (said := said2) (wt := wt2) (w := w1) (pl := pl1)) zd231_215 zxt235 rfl ⟨rfl, rfl, rfl, by omega, by omega, by omega, by omega, by omega, by omega, by omega, by omega⟩ (fun r215 F215 G215 hq215 => ?_)
                obtain ⟨rfl, rfl, rfl⟩ := hq215
                refine zn_goto hB zd231_218 rfl ?_
                have hz := zp_jump (pl2 := pl1 + 1) (op := 12) l1 (by omega) (by omega) (by omega)
                exact ih.1 _ _ _ _ _ _ _ _ hz (zp_cd_up hc2 (by omega)) (fun k hk => by rw [zn_up_n (by omega), hD k hk]) (by omega) (by omega) (by omega)
              · refine zn_con hB zd231_208 rfl ?_
                refine zn_goto hB zd231_210 rfl ?_
                refine zn_iv1 hB (zh235 (cm := cm1) (said := said2) (wt := wt2) (w := w1) (pl := pl1)) zd231_215 zxt235 rfl ⟨rfl, rfl, rfl, by omega, by omega, by omega, by omega, by omega, by omega, by omega, by omega⟩ (fun r215 F215 G215 hq215 => ?_)
                obtain ⟨rfl, rfl, rfl⟩ := hq215
                refine zn_goto hB zd231_218 rfl ?_
                have hz := zp_jump (pl2 := pl1 + 1) (op := 11) l1 (by omega) (by omega) (by omega)
                exact ih.1 _ _ _ _ _ _ _ _ hz (zp_cd_up hc2 (by omega)) (fun k hk => by rw [zn_up_n (by omega), hD k hk]) (by omega) (by omega) (by omega)
            · refine zn_con hB zd231_190 rfl ?_
              refine zn_goto hB zd231_191 rfl ?_
              refine zn_iv1 hB (zh234 (e0 := e0) (D := D1) (said := said1) (w := w1) (pl := pl1) (cm := cm1) (wt := wt1) (d := 1) (len := len)) zd231_195 zxt234 rfl ⟨rfl, rfl, rfl, h1, by omega⟩ (fun r195 F195 G195 hq195 => ?_)
              obtain ⟨rfl, said2, wt2, rfl, rfl, ⟨l1, l2, l3⟩, l4⟩ := hq195
              obtain ⟨c1, c2, c3, c4, c5, c6, c7, c8⟩ := l1.1
              have hc2 : zp_cd w1 wt2 := zp_cd_cut hc c2 l2 (fun _ _ => rfl) (fun i i1 i2 => by have := l3 i i1 i2; omega)
              have hc3 := hc2.1
              have hpn2 := zp_pn_nn (w := w1) (a := wt2)
              refine zn_ald hB zd231_198 rfl rfl rfl ?_
              refine zn_ald hB zd231_199 rfl rfl rfl ?_
              refine zn_iv0 hB (zh217 (pl := pl1) (len := len) (tape := tape)) zd231_200 zxt217 rfl ⟨rfl, rfl, rfl, by omega, by omega⟩ (fun r200 F200 G200 hq200 => ?_)
              obtain ⟨rfl, rfl, rfl⟩ := hq200
              refine zn_con hB zd231_203 rfl ?_
              refine zn_cne hB zd231_205 rfl (fun h205 => ?_) (fun h205 => ?_)
              · refine zn_con hB zd231_213 rfl ?_
                refine zn_iv1 hB (zh235 (cm := cm1) (said := said2) (wt := wt2) (w := w1) (pl := pl1)) zd231_215 zxt235 rfl ⟨rfl, rfl, rfl, by omega, by omega, by omega, by omega, by omega, by omega, by omega, by omega⟩ (fun r215 F215 G215 hq215 => ?_)
                obtain ⟨rfl, rfl, rfl⟩ := hq215
                refine zn_goto hB zd231_218 rfl ?_
                have hz := zp_jump (pl2 := pl1 + 1) (op := 12) l1 (by omega) (by omega) (by omega)
                exact ih.1 _ _ _ _ _ _ _ _ hz (zp_cd_up hc2 (by omega)) (fun k hk => by rw [zn_up_n (by omega), hD k hk]) (by omega) (by omega) (by omega)
              · refine zn_con hB zd231_208 rfl ?_
                refine zn_goto hB zd231_210 rfl ?_
                refine zn_iv1 hB (zh235 (cm := cm1) (said := said2) (wt := wt2) (w := w1) (pl := pl1)) zd231_215 zxt235 rfl ⟨rfl, rfl, rfl, by omega, by omega, by omega, by omega, by omega, by omega, by omega, by omega⟩ (fun r215 F215 G215 hq215 => ?_)
                obtain ⟨rfl, rfl, rfl⟩ := hq215
                refine zn_goto hB zd231_218 rfl ?_
                have hz := zp_jump (pl2 := pl1 + 1) (op := 11) l1 (by omega) (by omega) (by omega)
                exact ih.1 _ _ _ _ _ _ _ _ hz (zp_cd_up hc2 (by omega)) (fun k hk => by rw [zn_up_n (by omega), hD k hk]) (by omega) (by omega) (by omega)
          · refine zn_ald hB zd231_161 rfl rfl rfl ?_
            refine zn_iv0 hB (zh217 (pl := pl1) (len := len) (tape := tape)) zd231_162 zxt217 rfl ⟨rfl, rfl, rfl, by omega, by omega⟩ (fun r162 F162 G162 hq162 => ?_)
            obtain ⟨rfl, rfl, rfl⟩ := hq162
            refine zn_con hB zd231_165 rfl ?_
            refine zn_ceq hB zd231_167 rfl (fun h167 => ?_) (fun h167 => ?_)
            · have hlt := zp_h_lt (tape := tape) (pl := pl1) (len := len) (by omega)
              refine zn_ald hB zd231_180 rfl rfl rfl ?_
              refine zn_ald hB zd231_181 rfl rfl rfl ?_
              refine zn_iv0 hB (zh217 (pl := pl1) (len := len) (tape := tape)) zd231_182 zxt217 rfl ⟨rfl, rfl, rfl, by omega, by omega⟩ (fun r182 F182 G182 hq182 => ?_)
              obtain ⟨rfl, rfl, rfl⟩ := hq182
              refine zn_con hB zd231_185 rfl ?_
              refine zn_cne hB zd231_187 rfl (fun h187 => ?_) (fun h187 => ?_)
              · refine zn_con hB zd231_194 rfl ?_
                refine zn_iv1 hB (zh234 (e0 := e0) (D := D1) (said := said1) (w := w1) (pl := pl1) (cm := cm1) (wt := wt1) (d := 1) (len := len)) zd231_195 zxt234 rfl ⟨rfl, rfl, rfl, h1, by omega⟩ (fun r195 F195 G195 hq195 => ?_)
                obtain ⟨rfl, said2, wt2, rfl, rfl, ⟨l1, l2, l3⟩, l4⟩ := hq195
                obtain ⟨c1, c2, c3, c4, c5, c6, c7, c8⟩ := l1.1
                have hc2 : zp_cd w1 wt2 := zp_cd_cut hc c2 l2 (fun _ _ => rfl) (fun i i1 i2 => by have := l3 i i1 i2; omega)
                have hc3 := hc2.1
                have hpn2 := zp_pn_nn (w := w1) (a := wt2)
                refine zn_ald hB zd231_198 rfl rfl rfl ?_
                refine zn_ald hB zd231_199 rfl rfl rfl ?_
                refine zn_iv0 hB (zh217 (pl := pl1) (len := len) (tape := tape)) zd231_200 zxt217 rfl ⟨rfl, rfl, rfl, by omega, by omega⟩ (fun r200 F200 G200 hq200 => ?_)
                obtain ⟨rfl, rfl, rfl⟩ := hq200
                refine zn_con hB zd231_203 rfl ?_
                refine zn_cne hB zd231_205 rfl (fun h205 => ?_) (fun h205 => ?_)
                · refine zn_con hB zd231_213 rfl ?_
                  refine zn_iv1 hB (zh235 (cm := cm1) (said := said2) (wt := wt2) (w := w1) (pl := pl1)) zd231_215 zxt235 rfl ⟨rfl, rfl, rfl, by omega, by omega, by omega, by omega, by omega, by omega, by omega, by omega⟩ (fun r215 F215 G215 hq215 => ?_)
                  obtain ⟨rfl, rfl, rfl⟩ := hq215
                  refine zn_goto hB zd231_218 rfl ?_
                  have hz := zp_jump (pl2 := pl1 + 1) (op := 12) l1 (by omega) (by omega) (by omega)
                  exact ih.1 _ _ _ _ _ _ _ _ hz (zp_cd_up hc2 (by omega)) (fun k hk => by rw [zn_up_n (by omega), hD k hk]) (by omega) (by omega) (by omega)
                · refine zn_con hB zd231_208 rfl ?_
                  refine zn_goto hB zd231_210 rfl ?_
                  refine zn_iv1 hB (zh235 (cm := cm1) (said := said2) (wt := wt2) (w := w1) (pl := pl1)) zd231_215 zxt235 rfl ⟨rfl, rfl, rfl, by omega, by omega, by omega, by omega, by omega, by omega, by omega, by omega⟩ (fun r215 F215 G215 hq215 => ?_)
                  obtain ⟨rfl, rfl, rfl⟩ := hq215
                  refine zn_goto hB zd231_218 rfl ?_
                  have hz := zp_jump (pl2 := pl1 + 1) (op := 11) l1 (by omega) (by omega) (by omega)
                  exact ih.1 _ _ _ _ _ _ _ _ hz (zp_cd_up hc2 (by omega)) (fun k hk => by rw [zn_up_n (by omega), hD k hk]) (by omega) (by omega) (by omega)
              · refine zn_con hB zd231_190 rfl ?_
                refine zn_goto hB zd231_191 rfl ?_
                refine zn_iv1 hB (zh234 (e0 := e0) (D := D1) (said := said1) (w := w1) (pl := pl1) (cm := cm1) (wt := wt1) (d := 1) (len := len)) zd231_195 zxt234 rfl ⟨rfl, rfl, rfl, h1, by omega⟩ (fun r195 F195 G195 hq195 => ?_)
                obtain ⟨rfl, said2, wt2, rfl, rfl, ⟨l1, l2, l3⟩, l4⟩ := hq195
                obtain ⟨c1, c2, c3, c4, c5, c6, c7, c8⟩ := l1.1
                have hc2 : zp_cd w1 wt2 := zp_cd_cut hc c2 l2 (fun _ _ => rfl) (fun i i1 i2 => by have := l3 i i1 i2; omega)
                have hc3 := hc2.1
                have hpn2 := zp_pn_nn (w := w1) (a := wt2)
                refine zn_ald hB zd231_198 rfl rfl rfl ?_
                refine zn_ald hB zd231_199 rfl rfl rfl ?_
                refine zn_iv0 hB (zh217 (pl := pl1) (len := len) (tape := tape)) zd231_200 zxt217 rfl ⟨rfl, rfl, rfl, by omega, by omega⟩ (fun r200 F200 G200 hq200 => ?_)
                obtain ⟨rfl, rfl, rfl⟩ := hq200
                refine zn_con hB zd231_203 rfl ?_
                refine zn_cne hB zd231_205 rfl (fun h205 => ?_) (fun h205 => ?_)
                · refine zn_con hB zd231_213 rfl ?_
                  refine zn_iv1 hB (zh235 (cm := cm1) (said := said2) (wt := wt2) (w := w1) (pl := pl1)) zd231_215 zxt235 rfl ⟨rfl, rfl, rfl, by omega, by omega, by omega, by omega, by omega, by omega, by omega, by omega⟩ (fun r215 F215 G215 hq215 => ?_)
                  obtain ⟨rfl, rfl, rfl⟩ := hq215
                  refine zn_goto hB zd231_218 rfl ?_
                  have hz := zp_jump (pl2 := pl1 + 1) (op := 12) l1 (by omega) (by omega) (by omega)
                  exact ih.1 _ _ _ _ _ _ _ _ hz (zp_cd_up hc2 (by omega)) (fun k hk => by rw [zn_up_n (by omega), hD k hk]) (by omega) (by omega) (by omega)
                · refine zn_con hB zd231_208 rfl ?_
                  refine zn_goto hB zd231_210 rfl ?_
                  refine zn_iv1 hB (zh235 (cm := cm1) (said := said2) (wt := wt2) (w := w1) (pl := pl1)) zd231_215 zxt235 rfl ⟨rfl, rfl, rfl, by omega, by omega, by omega, by omega, by omega, by omega, by omega, by omega⟩ (fun r215 F215 G215 hq215 => ?_)
                  obtain ⟨rfl, rfl, rfl⟩ := hq215
                  refine zn_goto hB zd231_218 rfl ?_
                  have hz := zp_jump (pl2 := pl1 + 1) (op := 11) l1 (by omega) (by omega) (by omega)
                  exact ih.1 _ _ _ _ _ _ _ _ hz (zp_cd_up hc2 (by omega)) (fun k hk => by rw [zn_up_n (by omega), hD k hk]) (by omega) (by omega) (by omega)
            · refine zn_ald hB zd231_170 rfl rfl rfl ?_
              refine zn_con hB zd231_171 rfl ?_
              refine zn_ald hB zd231_172 rfl rfl rfl ?_
              refine zn_getf hB zd231_173 rfl rfl (fun q173 r173 => ?_)
              refine zn_iv2 hB zh219 zd231_176 zxt219 rfl ⟨rfl, rfl⟩ (fun r176 F176 G176 hq176 => ?_)
              obtain ⟨rfl, fl1, rfl, rfl⟩ := hq176
              exact hret _ _ _ _ _ zd231_179 (by constructor <;> decide) (Or.inl ⟨rfl, _, _, _, _, _, _, _, _, rfl, rfl⟩)
        · have hlt := zp_h_lt (tape := tape) (pl := pl1) (len := len) (by omega)
          refine zn_ald hB zd231_101 rfl rfl rfl ?_
          refine zn_con hB zd231_102 rfl ?_
          refine zn_iv1 hB (zh234 (e0 := e0) (D := D1) (said := said1) (w := w1) (pl := pl1) (cm := cm1) (wt := wt1) (d := 1) (len := len)) zd231_103 zxt234 rfl ⟨rfl, rfl, rfl, h1, by omega⟩ (fun r103 F103 G103 hq103 => ?_)
          obtain ⟨rfl, said2, wt2, rfl, rfl, ⟨l1, l2, l3⟩, l4⟩ := hq103
          obtain ⟨c1, c2, c3, c4, c5, c6, c7, c8⟩ := l1.1
          have hc2 : zp_cd w1 wt2 := zp_cd_cut hc c2 l2 (fun _ _ => rfl) (fun i i1 i2 => by have := l3 i i1 i2; omega)
          have hc3 := hc2.1
          have hpn2 := zp_pn_nn (w := w1) (a := wt2)
          have l5 := l4 (by omega)
          have hpop := (zp_pop l1 (by omega) (by omega)).1
          refine zn_ald hB zd231_106 rfl rfl rfl ?_
          refine zn_ald hB zd231_107 rfl rfl rfl ?_
          refine zn_getf hB zd231_108 rfl rfl (fun q108 r108 => ?_)
          refine zn_con hB zd231_111 rfl ?_
          refine zn_isub hB zd231_112 (by omega) (by omega) ?_
          refine zn_putf hB zd231_113 rfl rfl (fun h => by cases h) rfl ?_
          refine zn_ald hB zd231_116 rfl rfl rfl ?_
          refine zn_ald hB zd231_117 rfl rfl rfl ?_
          refine zn_getf hB zd231_118 rfl rfl (fun q118 r118 => ?_)
          refine zn_con hB zd231_121 rfl ?_
          refine zn_any hB zd231_122 rfl (fun v122 q122 r122 => ?_)
          refine zn_putf hB zd231_123 rfl rfl (fun h => by cases h) rfl ?_
          refine zn_ald hB zd231_126 rfl rfl rfl ?_
          refine zn_ald hB zd231_127 rfl rfl rfl ?_
          refine zn_getf hB zd231_128 rfl rfl (fun q128 r128 => ?_)
          refine zn_con hB zd231_131 rfl ?_
          refine zn_iadd hB zd231_132 (by omega) (by omega) ?_
          refine zn_putf hB zd231_133 rfl rfl (fun h => by cases h) rfl ?_
          refine zn_ald hB zd231_136 rfl rfl rfl ?_
          refine zn_getf hB zd231_137 rfl rfl (fun q137 r137 => ?_)
          refine zn_zne hB zd231_140 rfl (fun h140 => ?_) (fun h140 => ?_)
          · refine zn_ald hB zd231_145 rfl rfl rfl ?_
            refine zn_iv0 hB (zh233 (e0 := e0) (D := D1) (said := said2) (w := w1) (d := 1) (wt := wt2 - 1) (cm := cm1) (pl := pl1 + 1) (len := len)) zd231_146 zxt233 rfl ⟨rfl, rfl, rfl, zp_on hpop (by omega) (by omega), by omega⟩ (fun r146 F146 G146 hq146 => ?_)
            obtain ⟨rfl, D3, said3, op3, cm3, wt3, rfl, rfl, m1, m2, m3, m4, m5⟩ := hq146
            refine zn_goto hB zd231_149 rfl ?_
            exact ih.2 _ _ _ _ _ _ _ _ m1 (zp_cd_cut (w := w1) (wt := wt2 - 1) ⟨by omega, hc2.2.1, fun j j1 j2 => hc2.2.2 j j1 (by omega)⟩ m1.1.2.1 m3 (fun _ _ => rfl) (fun i i1 i2 => by have := m5 i i1 i2; omega)) (fun k hk => by rw [m2 k (by omega), hD k hk]) (by omega) (by omega) (by omega)
          · refine zn_con hB zd231_143 rfl ?_
            refine hret _ _ _ _ _ zd231_144 (by constructor <;> decide) (Or.inr ⟨rfl, D1, said2, w1, pl1 + 1, v122, cm1, nb1, ?_, rfl, ?_, hD, hcm, by omega⟩)
            · show (pl1 + 1) :: len :: fl :: v122 :: cm1 :: (wt2 - 1) :: nb1 :: Fr = _
              rw [h140]
            · have hz := zp_on (pl2 := pl1 + 1) hpop (by omega) (by omega)
              rw [h140] at hz
              exact hz
  refine zn_ald hB zd231_0 rfl rfl rfl ?_
  refine zn_iv0 hB (zh217 (pl := pl) (len := len) (tape := tape)) zd231_1 zxt217 rfl ⟨rfl, rfl, rfl, by omega, by omega⟩ (fun r1 F1 G1 hq1 => ?_)
  obtain ⟨rfl, rfl, rfl⟩ := hq1
  refine zn_con hB zd231_4 rfl ?_
  refine zn_ceq hB zd231_6 rfl (fun h6 => ?_) (fun h6 => ?_)
  · have hlt := zp_h_lt (tape := tape) (pl := pl) (len := len) (by omega)
    have hpn := zp_pn_nn (w := w) (a := 0)
    refine zn_ald hB zd231_19 rfl rfl rfl ?_
    refine zn_con hB zd231_20 rfl ?_
    refine zn_putf hB zd231_21 rfl rfl (fun h => by cases h) rfl ?_
    refine zn_ald hB zd231_24 rfl rfl rfl ?_
    refine zn_con hB zd231_25 rfl ?_
    refine zn_putf hB zd231_26 rfl rfl (fun h => by cases h) rfl ?_
    refine zn_ald hB zd231_29 rfl rfl rfl ?_
    refine zn_con hB zd231_30 rfl ?_
    refine zn_iv1 hB (zh222 (pl := pl) (wt := 0) (w := w)) zd231_32 zxt222 rfl ⟨rfl, rfl, rfl, by omega, by omega, by omega, by omega, by omega, by omega⟩ (fun r32 F32 G32 hq32 => ?_)
    rcases hq32 with ⟨rfl, f0, rfl, rfl⟩ | ⟨rfl, op2, rfl, rfl⟩
    · refine zn_zne hB zd231_35 rfl (fun h35 => ?_) (fun h35 => ?_)
      · exfalso; omega
      · refine zn_con hB zd231_38 rfl ?_
        exact hret _ _ _ _ _ zd231_39 (by constructor <;> decide) (Or.inl ⟨rfl, _, _, _, _, _, _, _, _, rfl, rfl⟩)
    · refine zn_zne hB zd231_35 rfl (fun h35 => ?_) (fun h35 => ?_)
      · have hz := zp_push (pl2 := pl + 1) (x := 1048576 * 13) hs (by omega) (by rw [if_neg (by omega)]; omega)
        have hcd : zp_cd (zn_up w 0 (1048576 * 13)) (0 + 1) := ⟨by omega, by rw [zn_up_s]; omega, fun j j1 j2 => by
          have : j = 0 := by omega
          rw [this, zn_up_s]; omega⟩
        exact (key ((len - pl).toNat + 1)).1 _ _ _ _ _ _ _ _ hz hcd (fun _ _ => rfl) (by omega) (by omega) (by omega)
      · exfalso; omega
  · refine zn_ald hB zd231_9 rfl rfl rfl ?_
    refine zn_con hB zd231_10 rfl ?_
    refine zn_ald hB zd231_11 rfl rfl rfl ?_
    refine zn_getf hB zd231_12 rfl rfl (fun q12 r12 => ?_)
    refine zn_iv2 hB zh219 zd231_15 zxt219 rfl ⟨rfl, rfl⟩ (fun r15 F15 G15 hq15 => ?_)
    obtain ⟨rfl, fl1, rfl, rfl⟩ := hq15
    exact hret _ _ _ _ _ zd231_18 (by constructor <;> decide) (Or.inl ⟨rfl, _, _, _, _, _, _, _, _, rfl, rfl⟩)
end ZREAD5
