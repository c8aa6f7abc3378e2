/-! The reading of laws: a whole sum; ends of pieces, jumps and where they land. -/
/-- nots that wait are noted -/
def zp_e (e0 : Nat) (D w : Int → Int) (pl len cm wt d : Int) (D' said' : Int → Int) (cm' wt' : Int) : Prop :=
  zp_s e0 D' said' w pl len cm' wt' d ∧ (∀ k, k ≤ cm → D' k = D k) ∧ wt' ≤ wt ∧ cm ≤ cm' ∧ (∀ i, wt' ≤ i → i < wt → w i / 1048576 = 10)
theorem zp_e_rf {e0 : Nat} {D said w : Int → Int} {pl len cm wt d : Int} (h : zp_s e0 D said w pl len cm wt d) : zp_e e0 D w pl len cm wt d D said cm wt :=
  ⟨h, fun _ _ => rfl, Int.le_refl _, Int.le_refl _, fun i h1 h2 => absurd h1 (by omega)⟩
theorem zp_e_st {e0 : Nat} {D said w : Int → Int} {pl len cm wt d : Int} (h : zp_s e0 D said w pl len cm wt d) (h0 : 0 < wt) (h1 : w (wt - 1) / 1048576 = 10) (h2 : 1 ≤ d) :
    zp_s e0 (zn_up D (cm + 1) d) (zn_up said cm (1048576 * 10 + 0)) w pl len (cm + 1) (wt - 1) d ∧ ∀ D' said' cm' wt', zp_e e0 (zn_up D (cm + 1) d) w pl len (cm + 1) (wt - 1) d D' said' cm' wt' → zp_e e0 D w pl len cm wt d D' said' cm' wt' := by
  obtain ⟨g1, g2⟩ := zp_pop h h0 (by omega)
  rw [if_pos (by omega)] at g2
  have hb := h.1
  refine ⟨zp_note g1 (by omega) (by omega) (by omega) (by omega) (Or.inr (Or.inr (Or.inr (by omega)))), fun D' said' cm' wt' ⟨a1, a2, a3, a4, a5⟩ => ⟨a1, fun k hk => ?_, by omega, by omega, fun i i1 i2 => ?_⟩⟩
  · rw [a2 k (by omega), zn_up_n (by omega)]
  · by_cases e : i = wt - 1
    · subst e; omega
    · exact a5 i i1 (by omega)
/-- jumps that wait land -/
def zp_l (e0 : Nat) (D w : Int → Int) (pl len cm wt d : Int) (said' : Int → Int) (wt' : Int) : Prop :=
  zp_s e0 D said' w pl len cm wt' d ∧ wt' ≤ wt ∧ (∀ i, wt' ≤ i → i < wt → w i / 1048576 = 11 ∨ w i / 1048576 = 12)
section ZREAD3
variable {e0 : Nat} {pl len fl op cm wt nb d : Int} {tape said w D : Int → Int} {Fr : List Int} {Gr : List (Int → Int)}
theorem zd220_0 : decode zxm220.2.1 0 = .ok (.aload_n 0, 1) := by decide +kernel
theorem zd220_1 : decode zxm220.2.1 1 = .ok (.getfield 206, 3) := by decide +kernel
theorem zd220_4 : decode zxm220.2.1 4 = .ok (.istore_n 1, 1) := by decide +kernel
theorem zd220_5 : decode zxm220.2.1 5 = .ok (.aload_n 0, 1) := by decide +kernel
theorem zd220_6 : decode zxm220.2.1 6 = .ok (.invokevirtual 225, 3) := by decide +kernel
theorem zd220_9 : decode zxm220.2.1 9 = .ok (.ifCond .ne 5, 3) := by decide +kernel
theorem zd220_12 : decode zxm220.2.1 12 = .ok (.iconst 0, 1) := by decide +kernel
theorem zd220_13 : decode zxm220.2.1 13 = .ok (.ireturn, 1) := by decide +kernel
theorem zd220_14 : decode zxm220.2.1 14 = .ok (.aload_n 0, 1) := by decide +kernel
theorem zd220_15 : decode zxm220.2.1 15 = .ok (.invokevirtual 182, 3) := by decide +kernel
theorem zd220_18 : decode zxm220.2.1 18 = .ok (.invokestatic 228, 3) := by decide +kernel
theorem zd220_21 : decode zxm220.2.1 21 = .ok (.istore_n 2, 1) := by decide +kernel
theorem zd220_22 : decode zxm220.2.1 22 = .ok (.iload_n 2, 1) := by decide +kernel
theorem zd220_23 : decode zxm220.2.1 23 = .ok (.iconst (-1), 1) := by decide +kernel
theorem zd220_24 : decode zxm220.2.1 24 = .ok (.if_icmp .eq 59, 3) := by decide +kernel
theorem zd220_27 : decode zxm220.2.1 27 = .ok (.aload_n 0, 1) := by decide +kernel
theorem zd220_28 : decode zxm220.2.1 28 = .ok (.iload_n 2, 1) := by decide +kernel
theorem zd220_29 : decode zxm220.2.1 29 = .ok (.iconst 4, 1) := by decide +kernel
theorem zd220_30 : decode zxm220.2.1 30 = .ok (.if_icmp .ge 7, 3) := by decide +kernel
theorem zd220_33 : decode zxm220.2.1 33 = .ok (.iconst 1, 1) := by decide +kernel
theorem zd220_34 : decode zxm220.2.1 34 = .ok (.goto 4, 3) := by decide +kernel
theorem zd220_37 : decode zxm220.2.1 37 = .ok (.iconst 0, 1) := by decide +kernel
theorem zd220_38 : decode zxm220.2.1 38 = .ok (.invokevirtual 231, 3) := by decide +kernel
theorem zd220_41 : decode zxm220.2.1 41 = .ok (.aload_n 0, 1) := by decide +kernel
theorem zd220_42 : decode zxm220.2.1 42 = .ok (.getfield 26, 3) := by decide +kernel
theorem zd220_45 : decode zxm220.2.1 45 = .ok (.aload_n 0, 1) := by decide +kernel
theorem zd220_46 : decode zxm220.2.1 46 = .ok (.getfield 206, 3) := by decide +kernel
theorem zd220_49 : decode zxm220.2.1 49 = .ok (.ldc 202, 2) := by decide +kernel
theorem zd220_51 : decode zxm220.2.1 51 = .ok (.iload_n 2, 1) := by decide +kernel
theorem zd220_52 : decode zxm220.2.1 52 = .ok (.imul, 1) := by decide +kernel
theorem zd220_53 : decode zxm220.2.1 53 = .ok (.iastore, 1) := by decide +kernel
theorem zd220_54 : decode zxm220.2.1 54 = .ok (.aload_n 0, 1) := by decide +kernel
theorem zd220_55 : decode zxm220.2.1 55 = .ok (.aload_n 0, 1) := by decide +kernel
theorem zd220_56 : decode zxm220.2.1 56 = .ok (.getfield 206, 3) := by decide +kernel
theorem zd220_59 : decode zxm220.2.1 59 = .ok (.iconst 1, 1) := by decide +kernel
theorem zd220_60 : decode zxm220.2.1 60 = .ok (.iadd, 1) := by decide +kernel
theorem zd220_61 : decode zxm220.2.1 61 = .ok (.putfield 206, 3) := by decide +kernel
theorem zd220_64 : decode zxm220.2.1 64 = .ok (.aload_n 0, 1) := by decide +kernel
theorem zd220_65 : decode zxm220.2.1 65 = .ok (.aload_n 0, 1) := by decide +kernel
theorem zd220_66 : decode zxm220.2.1 66 = .ok (.getfield 176, 3) := by decide +kernel
theorem zd220_69 : decode zxm220.2.1 69 = .ok (.iconst 1, 1) := by decide +kernel
theorem zd220_70 : decode zxm220.2.1 70 = .ok (.iadd, 1) := by decide +kernel
theorem zd220_71 : decode zxm220.2.1 71 = .ok (.putfield 176, 3) := by decide +kernel
theorem zd220_74 : decode zxm220.2.1 74 = .ok (.aload_n 0, 1) := by decide +kernel
theorem zd220_75 : decode zxm220.2.1 75 = .ok (.invokevirtual 225, 3) := by decide +kernel
theorem zd220_78 : decode zxm220.2.1 78 = .ok (.ifCond .ne 85, 3) := by decide +kernel
theorem zd220_81 : decode zxm220.2.1 81 = .ok (.iconst 0, 1) := by decide +kernel
theorem zd220_82 : decode zxm220.2.1 82 = .ok (.ireturn, 1) := by decide +kernel
theorem zd220_83 : decode zxm220.2.1 83 = .ok (.aload_n 0, 1) := by decide +kernel
theorem zd220_84 : decode zxm220.2.1 84 = .ok (.invokevirtual 182, 3) := by decide +kernel
theorem zd220_87 : decode zxm220.2.1 87 = .ok (.bipush 93, 2) := by decide +kernel
theorem zd220_89 : decode zxm220.2.1 89 = .ok (.if_icmp .ne 49, 3) := by decide +kernel
theorem zd220_92 : decode zxm220.2.1 92 = .ok (.aload_n 0, 1) := by decide +kernel
theorem zd220_93 : decode zxm220.2.1 93 = .ok (.iload_n 1, 1) := by decide +kernel
theorem zd220_94 : decode zxm220.2.1 94 = .ok (.invokevirtual 235, 3) := by decide +kernel
theorem zd220_97 : decode zxm220.2.1 97 = .ok (.ifCond .eq 41, 3) := by decide +kernel
theorem zd220_100 : decode zxm220.2.1 100 = .ok (.aload_n 0, 1) := by decide +kernel
theorem zd220_101 : decode zxm220.2.1 101 = .ok (.iconst 1, 1) := by decide +kernel
theorem zd220_102 : decode zxm220.2.1 102 = .ok (.invokevirtual 231, 3) := by decide +kernel
theorem zd220_105 : decode zxm220.2.1 105 = .ok (.aload_n 0, 1) := by decide +kernel
theorem zd220_106 : decode zxm220.2.1 106 = .ok (.aload_n 0, 1) := by decide +kernel
theorem zd220_107 : decode zxm220.2.1 107 = .ok (.getfield 206, 3) := by decide +kernel
theorem zd220_110 : decode zxm220.2.1 110 = .ok (.iconst 1, 1) := by decide +kernel
theorem zd220_111 : decode zxm220.2.1 111 = .ok (.isub, 1) := by decide +kernel
theorem zd220_112 : decode zxm220.2.1 112 = .ok (.putfield 206, 3) := by decide +kernel
theorem zd220_115 : decode zxm220.2.1 115 = .ok (.aload_n 0, 1) := by decide +kernel
theorem zd220_116 : decode zxm220.2.1 116 = .ok (.aload_n 0, 1) := by decide +kernel
theorem zd220_117 : decode zxm220.2.1 117 = .ok (.getfield 203, 3) := by decide +kernel
theorem zd220_120 : decode zxm220.2.1 120 = .ok (.iconst 1, 1) := by decide +kernel
theorem zd220_121 : decode zxm220.2.1 121 = .ok (.isub, 1) := by decide +kernel
theorem zd220_122 : decode zxm220.2.1 122 = .ok (.putfield 203, 3) := by decide +kernel
theorem zd220_125 : decode zxm220.2.1 125 = .ok (.aload_n 0, 1) := by decide +kernel
theorem zd220_126 : decode zxm220.2.1 126 = .ok (.aload_n 0, 1) := by decide +kernel
theorem zd220_127 : decode zxm220.2.1 127 = .ok (.getfield 176, 3) := by decide +kernel
theorem zd220_130 : decode zxm220.2.1 130 = .ok (.iconst 1, 1) := by decide +kernel
theorem zd220_131 : decode zxm220.2.1 131 = .ok (.iadd, 1) := by decide +kernel
theorem zd220_132 : decode zxm220.2.1 132 = .ok (.putfield 176, 3) := by decide +kernel
theorem zd220_135 : decode zxm220.2.1 135 = .ok (.goto 28, 3) := by decide +kernel
theorem zd220_138 : decode zxm220.2.1 138 = .ok (.aload_n 0, 1) := by decide +kernel
theorem zd220_139 : decode zxm220.2.1 139 = .ok (.iload_n 1, 1) := by decide +kernel
theorem zd220_140 : decode zxm220.2.1 140 = .ok (.invokevirtual 235, 3) := by decide +kernel
theorem zd220_143 : decode zxm220.2.1 143 = .ok (.ifCond .eq 13, 3) := by decide +kernel
theorem zd220_146 : decode zxm220.2.1 146 = .ok (.aload_n 0, 1) := by decide +kernel
theorem zd220_147 : decode zxm220.2.1 147 = .ok (.iconst 1, 1) := by decide +kernel
theorem zd220_148 : decode zxm220.2.1 148 = .ok (.aload_n 0, 1) := by decide +kernel
theorem zd220_149 : decode zxm220.2.1 149 = .ok (.getfield 176, 3) := by decide +kernel
theorem zd220_152 : decode zxm220.2.1 152 = .ok (.invokevirtual 189, 3) := by decide +kernel
theorem zd220_155 : decode zxm220.2.1 155 = .ok (.ireturn, 1) := by decide +kernel
theorem zd220_156 : decode zxm220.2.1 156 = .ok (.aload_n 0, 1) := by decide +kernel
theorem zd220_157 : decode zxm220.2.1 157 = .ok (.iconst 1, 1) := by decide +kernel
theorem zd220_158 : decode zxm220.2.1 158 = .ok (.invokevirtual 231, 3) := by decide +kernel
theorem zd220_161 : decode zxm220.2.1 161 = .ok (.iconst 1, 1) := by decide +kernel
theorem zd220_162 : decode zxm220.2.1 162 = .ok (.ireturn, 1) := by decide +kernel
theorem zd220_163 : decode zxm220.2.1 163 = .ok (.goto (-149), 3) := by decide +kernel
theorem zh220  : zn_OK z_TB z_cl z_KX zyM zxm220 (4, 240) (fun va F G => va = [.inr 0] ∧ F = pl :: len :: fl :: op :: cm :: wt :: nb :: Fr ∧ G = tape :: said :: w :: Gr ∧ zp_s e0 D said w pl len cm wt d ∧ zp_low0 w wt) (fun va F G r F' G' => (r = some 0 ∧ zp_no len tape Fr Gr F' G') ∨ (r = some 1 ∧ ∃ D' said' w' pl' op' cm' nb', F' = pl' :: len :: fl :: op' :: cm' :: wt :: nb' :: Fr ∧ G' = tape :: said' :: w' :: Gr ∧ zp_s e0 D' said' w' pl' len cm' wt (d + 1) ∧ (∀ k, k ≤ cm → D' k = D k) ∧ cm ≤ cm' ∧ (∀ j, j < wt → w' j = w j) ∧ pl < pl' ∧ cm' - cm ≤ pl' - pl)) := zn_meth (K := zkM) (FT := z_FT) (MT := z_MT) (n := 1) zxp220 (z_ks13 _ (fun _ h => List.mem_cons_of_mem _ h) _ _ _ _ (fun j r h _ => by cases h)) (fun _ _ => zs_KX_p) (by decide +kernel) (fun va F G h => by obtain ⟨rfl, _⟩ := h; rfl) rfl fun good va F G hB hret hvret hP => by
  obtain ⟨rfl, rfl, rfl, hs, hl⟩ := hP
  obtain ⟨a1, a2, a3, a4, a5, a6, a7, a8⟩ := hs.1
  have key : ∀ (n : Nat) (x : zNV) (D1 said1 w1 : Int → Int) (pl1 op1 cm1 wt1 nb1 d1 : Int), zp_s e0 D1 said1 w1 pl1 len cm1 wt1 d1 → zp_b D w pl cm wt d D1 w1 pl1 cm1 wt1 d1 → cm1 + zp_pn w1 wt1 - cm - zp_pn w wt ≤ pl1 - pl → len - pl1 < n → good 14 [.inr 0, .inl wt, x] [] (pl1 :: len :: fl :: op1 :: cm1 :: wt1 :: nb1 :: Fr) (tape :: said1 :: w1 :: Gr) := by
    intro n
    induction n with
    | zero =>
      intro x D1 said1 w1 pl1 op1 cm1 wt1 nb1 d1 h1 hb hg hn
      have := h1.1
      exfalso; omega
    | succ n ih =>
      intro x D1 said1 w1 pl1 op1 cm1 wt1 nb1 d1 h1 hb hg hn
      obtain ⟨b1, b2, b3, b4, b5, b6, b7, b8⟩ := h1.1
      have hpn := zp_pn_nn (w := w1) (a := wt1)
      have hnn : ∀ j, wt ≤ j → j < wt1 → 0 ≤ w1 j := fun j j1 j2 => (h1.2.2 j (by omega) j2).1
      have hwb := hb.2.2.1
      refine zn_ald hB zd220_14 rfl rfl rfl ?_
      refine zn_iv0 hB (zh217 (pl := pl1) (len := len) (tape := tape)) zd220_15 zxt217 rfl ⟨rfl, rfl, rfl, by omega, by omega⟩ (fun r15 F15 G15 hq15 => ?_)
      obtain ⟨rfl, rfl, rfl⟩ := hq15
      refine zn_it1 hB zh227 zd220_18 zxt227 rfl rfl (fun r18 F18 G18 hq18 => ?_)
      obtain ⟨rfl, rfl, s, rfl, hsg⟩ := hq18
      refine zn_ist hB zd220_21 rfl rfl rfl ?_
      refine zn_ild hB zd220_22 rfl rfl ?_
      refine zn_con hB zd220_23 rfl ?_
      refine zn_ceq hB zd220_24 rfl (fun h24 => ?_) (fun h24 => ?_)
      · refine zn_ald hB zd220_83 rfl rfl rfl ?_
        refine zn_iv0 hB (zh217 (pl := pl1) (len := len) (tape := tape)) zd220_84 zxt217 rfl ⟨rfl, rfl, rfl, by omega, by omega⟩ (fun r84 F84 G84 hq84 => ?_)
        obtain ⟨rfl, rfl, rfl⟩ := hq84
        refine zn_con hB zd220_87 rfl ?_
        refine zn_cne hB zd220_89 rfl (fun h89 => ?_) (fun h89 => ?_)
        · refine zn_ald hB zd220_138 rfl rfl rfl ?_
          refine zn_ild hB zd220_139 rfl rfl ?_
          refine zn_iv1 hB (zh230 (w := w1) (wt := wt1)) zd220_140 zxt230 rfl ⟨rfl, rfl, rfl, by omega, by omega, hnn⟩ (fun r140 F140 G140 hq140 => ?_)
          obtain ⟨rfl, rfl, ho⟩ := hq140
          rcases ho with ⟨rfl, j, j1, j2, j3⟩ | ⟨rfl, hno⟩
          · refine zn_zeq hB zd220_143 rfl (fun h143 => ?_) (fun h143 => ?_)
            · exfalso; omega
            · refine zn_ald hB zd220_146 rfl rfl rfl ?_
              refine zn_con hB zd220_147 rfl ?_
              refine zn_ald hB zd220_148 rfl rfl rfl ?_
              refine zn_getf hB zd220_149 rfl rfl (fun q149 r149 => ?_)
              refine zn_iv2 hB zh219 zd220_152 zxt219 rfl ⟨rfl, rfl⟩ (fun r152 F152 G152 hq152 => ?_)
              obtain ⟨rfl, fl1, rfl, rfl⟩ := hq152
              exact hret _ _ _ _ _ zd220_155 (by constructor <;> decide) (Or.inl ⟨rfl, _, _, _, _, _, _, _, _, rfl, rfl⟩)
          · refine zn_zeq hB zd220_143 rfl (fun h143 => ?_) (fun h143 => ?_)
            · refine zn_ald hB zd220_156 rfl rfl rfl ?_
              refine zn_con hB zd220_157 rfl ?_
              refine zn_iv1 hB (zh228 (D := D1) (said := said1) (w := w1) (cm := cm1) (wt := wt1) (d := d1) (pl := pl1)) zd220_158 zxt228 rfl ⟨rfl, rfl, rfl, h1, zp_b_run hb hl a8 a2⟩ (fun r158 F158 G158 hq158 => ?_)
              obtain ⟨rfl, D2, said2, cm2, wt2, d2, rfl, rfl, k1, k2⟩ := hq158
              have hs2 := k1.1
              have hb2 := zp_b_cs hb hl hs2.1.2.1 k1
              obtain ⟨c1, c2, c3, c4, c5, c6, c7, c8⟩ := hs2.1
              have hpn2 := zp_pn_nn (w := w1) (a := wt2)
              have k3 := k1.2.2.2.2.2.2.1
              have k4 := k1.2.2.2.1
              have k5 := k1.2.2.1
              have k6 := hb2.2.2.1
              have hg5 : cm2 + wt2 = cm1 + wt1 := k1.2.2.2.2.2.2.2
              refine zn_con hB zd220_161 rfl ?_
              have ew : wt2 = wt := by
                rcases Int.lt_or_le wt wt2 with q | q
                · exfalso
                  rcases k2 (by omega) with q3 | q3
                  · omega
                  · rcases hb2.2.2.2.2.1 (wt2 - 1) (by omega) (by omega) with q4 | q4
                    · exact q3 q4
                    · exact hno (wt2 - 1) (by omega) (by omega) q4
                · omega
              have e3 : zp_pn w1 wt = zp_pn w wt := zp_pn_cg fun k _ k2 => hb.2.2.2.1 k k2
              have e4 := hb2.2.2.2.2.2.1
              rw [ew] at e4 hs2 k3 k4 hpn2
              have e5 : d2 = d + 1 := by omega
              rw [e5] at hs2
              refine hret _ _ _ _ _ zd220_162 (by constructor <;> decide) (Or.inr ⟨rfl, D2, said2, w1, pl1, op1, cm2, nb1, by rw [ew], rfl, hs2, hb2.1, hb2.2.1, hb2.2.2.2.1, hb2.2.2.2.2.2.2, ?_⟩)
              have := k1.2.2.2.2.1
              omega
            · exfalso; omega
        · have hlt := zp_h_lt (tape := tape) (pl := pl1) (len := len) (by omega)
          refine zn_ald hB zd220_92 rfl rfl rfl ?_
          refine zn_ild hB zd220_93 rfl rfl ?_
          refine zn_iv1 hB (zh230 (w := w1) (wt := wt1)) zd220_94 zxt230 rfl ⟨rfl, rfl, rfl, by omega, by omega, hnn⟩ (fun r94 F94 G94 hq94 => ?_)
          obtain ⟨rfl, rfl, ho⟩ := hq94
          rcases ho with ⟨rfl, j, j1, j2, j3⟩ | ⟨rfl, hno⟩
          · refine zn_zeq hB zd220_97 rfl (fun h97 => ?_) (fun h97 => ?_)
            · exfalso; omega
            · refine zn_ald hB zd220_100 rfl rfl rfl ?_
              refine zn_con hB zd220_101 rfl ?_
              refine zn_iv1 hB (zh228 (D := D1) (said := said1) (w := w1) (cm := cm1) (wt := wt1) (d := d1) (pl := pl1)) zd220_102 zxt228 rfl ⟨rfl, rfl, rfl, h1, zp_b_run hb hl a8 a2⟩ (fun r102 F102 G102 hq102 => ?_)
              obtain ⟨rfl, D2, said2, cm2, wt2, d2, rfl, rfl, k1, k2⟩ := hq102
              have hs2 := k1.1
              have hb2 := zp_b_cs hb hl hs2.1.2.1 k1
              obtain ⟨c1, c2, c3, c4, c5, c6, c7, c8⟩ := hs2.1
              have hpn2 := zp_pn_nn (w := w1) (a := wt2)
              have k3 := k1.2.2.2.2.2.2.1
              have k4 := k1.2.2.2.1
              have k5 := k1.2.2.1
              have k6 := hb2.2.2.1
              have hg5 : cm2 + wt2 = cm1 + wt1 := k1.2.2.2.2.2.2.2
              have jw : j < wt2 := by
                rcases Int.lt_or_le j wt2 with q | q
                · exact q
                · have := k1.2.2.2.2.2.1 j q j2
                  omega
              have top : w1 (wt2 - 1) / 1048576 = 14 := by
                rcases k2 (by omega) with q | q
                · omega
                · rcases hb2.2.2.2.2.1 (wt2 - 1) (by omega) (by omega) with q2 | q2
                  · exact absurd q2 q
                  · exact q2
              have hpop := zp_pop hs2 (by omega) (by omega)
              have hpe := hpop.2
              rw [if_neg (by omega)] at hpe
              refine zn_ald hB zd220_105 rfl rfl rfl ?_
              refine zn_ald hB zd220_106 rfl rfl rfl ?_
              refine zn_getf hB zd220_107 rfl rfl (fun q107 r107 => ?_)
              refine zn_con hB zd220_110 rfl ?_
              refine zn_isub hB zd220_111 (by omega) (by omega) ?_
              refine zn_putf hB zd220_112 rfl rfl (fun h => by cases h) rfl ?_
              refine zn_ald hB zd220_115 rfl rfl rfl ?_
              refine zn_ald hB zd220_116 rfl rfl rfl ?_
              refine zn_getf hB zd220_117 rfl rfl (fun q117 r117 => ?_)
              refine zn_con hB zd220_120 rfl ?_
              refine zn_any hB zd220_121 rfl (fun v121 q121 r121 => ?_)
              refine zn_putf hB zd220_122 rfl rfl (fun h => by cases h) rfl ?_
              refine zn_ald hB zd220_125 rfl rfl rfl ?_
              refine zn_ald hB zd220_126 rfl rfl rfl ?_
              refine zn_getf hB zd220_127 rfl rfl (fun q127 r127 => ?_)
              refine zn_con hB zd220_130 rfl ?_
              refine zn_iadd hB zd220_131 (by omega) (by omega) ?_
              refine zn_putf hB zd220_132 rfl rfl (fun h => by cases h) rfl ?_
              refine zn_goto hB zd220_135 rfl ?_
              refine zn_goto hB zd220_163 rfl ?_
              exact ih _ _ _ _ _ _ _ _ _ _ (zp_on hpop.1 (by omega) (by omega)) (zp_b_close hb2 (by omega) a2 top) (by omega) (by omega)
          · refine zn_zeq hB zd220_97 rfl (fun h97 => ?_) (fun h97 => ?_)
            · refine zn_ald hB zd220_138 rfl rfl rfl ?_
              refine zn_ild hB zd220_139 rfl rfl ?_
              refine zn_iv1 hB (zh230 (w := w1) (wt := wt1)) zd220_140 zxt230 rfl ⟨rfl, rfl, rfl, by omega, by omega, hnn⟩ (fun r140 F140 G140 hq140 => ?_)
              obtain ⟨rfl, rfl, ho⟩ := hq140
              rcases ho with ⟨rfl, j, j1, j2, j3⟩ | ⟨rfl, hno⟩
              · refine zn_zeq hB zd220_143 rfl (fun h143 => ?_) (fun h143 => ?_)
                · exfalso; omega
                · refine zn_ald hB zd220_146 rfl rfl rfl ?_
                  refine zn_con hB zd220_147 rfl ?_
                  refine zn_ald hB zd220_148 rfl rfl rfl ?_
                  refine zn_getf hB zd220_149 rfl rfl (fun q149 r149 => ?_)
                  refine zn_iv2 hB zh219 zd220_152 zxt219 rfl ⟨rfl, rfl⟩ (fun r152 F152 G152 hq152 => ?_)
                  obtain ⟨rfl, fl1, rfl, rfl⟩ := hq152
                  exact hret _ _ _ _ _ zd220_155 (by constructor <;> decide) (Or.inl ⟨rfl, _, _, _, _, _, _, _, _, rfl, rfl⟩)
              · refine zn_zeq hB zd220_143 rfl (fun h143 => ?_) (fun h143 => ?_)
                · refine zn_ald hB zd220_156 rfl rfl rfl ?_
                  refine zn_con hB zd220_157 rfl ?_
                  refine zn_iv1 hB (zh228 (D := D1) (said := said1) (w := w1) (cm := cm1) (wt := wt1) (d := d1) (pl := pl1)) zd220_158 zxt228 rfl ⟨rfl, rfl, rfl, h1, zp_b_run hb hl a8 a2⟩ (fun r158 F158 G158 hq158 => ?_)
                  obtain ⟨rfl, D2, said2, cm2, wt2, d2, rfl, rfl, k1, k2⟩ := hq158
                  have hs2 := k1.1
                  have hb2 := zp_b_cs hb hl hs2.1.2.1 k1
                  obtain ⟨c1, c2, c3, c4, c5, c6, c7, c8⟩ := hs2.1
                  have hpn2 := zp_pn_nn (w := w1) (a := wt2)
                  have k3 := k1.2.2.2.2.2.2.1
                  have k4 := k1.2.2.2.1
                  have k5 := k1.2.2.1
                  have k6 := hb2.2.2.1
                  have hg5 : cm2 + wt2 = cm1 + wt1 := k1.2.2.2.2.2.2.2
                  refine zn_con hB zd220_161 rfl ?_
                  have ew : wt2 = wt := by
                    rcases Int.lt_or_le wt wt2 with q | q
                    · exfalso
                      rcases k2 (by omega) with q3 | q3
                      · omega
                      · rcases hb2.2.2.2.2.1 (wt2 - 1) (by omega) (by omega) with q4 | q4
                        · exact q3 q4
                        · exact hno (wt2 - 1) (by omega) (by omega) q4
                    · omega
                  have e3 : zp_pn w1 wt = zp_pn w wt := zp_pn_cg fun k _ k2 => hb.2.2.2.1 k k2
                  have e4 := hb2.2.2.2.2.2.1
                  rw [ew] at e4 hs2 k3 k4 hpn2
                  have e5 : d2 = d + 1 := by omega
                  rw [e5] at hs2
                  refine hret _ _ _ _ _ zd220_162 (by constructor <;> decide) (Or.inr ⟨rfl, D2, said2, w1, pl1, op1, cm2, nb1, by rw [ew], rfl, hs2, hb2.1, hb2.2.1, hb2.2.2.2.1, hb2.2.2.2.2.2.2, ?_⟩)
                  have := k1.2.2.2.2.1
                  omega
                · exfalso; omega
            · exfalso; omega
      · have hlt := zp_h_lt (tape := tape) (pl := pl1) (len := len) (by omega)
        have hs26 : 2 ≤ s ∧ s ≤ 6 := by omega
        refine zn_ald hB zd220_27 rfl rfl rfl ?_
        refine zn_ild hB zd220_28 rfl rfl ?_
        refine zn_con hB zd220_29 rfl ?_
        refine zn_cge hB zd220_30 rfl (fun h30 => ?_) (fun h30 => ?_)
        · refine zn_con hB zd220_37 rfl ?_
          refine zn_iv1 hB (zh228 (D := D1) (said := said1) (w := w1) (cm := cm1) (wt := wt1) (d := d1) (pl := pl1)) zd220_38 zxt228 rfl ⟨rfl, rfl, rfl, h1, zp_b_run hb hl a8 a2⟩ (fun r38 F38 G38 hq38 => ?_)
          obtain ⟨rfl, D2, said2, cm2, wt2, d2, rfl, rfl, k1, k2⟩ := hq38
          have hs2 := k1.1
          have hb2 := zp_b_cs hb hl hs2.1.2.1 k1
          obtain ⟨c1, c2, c3, c4, c5, c6, c7, c8⟩ := hs2.1
          have hpn2 := zp_pn_nn (w := w1) (a := wt2)
          have k3 := k1.2.2.2.2.2.2.1
          have k4 := k1.2.2.2.1
          have k5 := k1.2.2.1
          have k6 := hb2.2.2.1
          have hg5 : cm2 + wt2 = cm1 + wt1 := k1.2.2.2.2.2.2.2
          have hpush := zp_push (pl2 := pl1 + 1) (x := 1048576 * s) hs2 (by omega) (by rw [if_pos (by omega)]; omega)
          refine zn_ald hB zd220_41 rfl rfl rfl ?_
          refine zn_getr hB zd220_42 rfl ?_
          refine zn_ald hB zd220_45 rfl rfl rfl ?_
          refine zn_getf hB zd220_46 rfl rfl (fun q46 r46 => ?_)
          refine zn_con (n := 1048576) hB zd220_49 (by decide +kernel) ?_
          refine zn_ild hB zd220_51 rfl rfl ?_
          refine zn_imul hB zd220_52 (by omega) (by omega) ?_
          refine zn_iast hB zd220_53 rfl rfl (by omega) (by omega) ?_
          refine zn_ald hB zd220_54 rfl rfl rfl ?_
          refine zn_ald hB zd220_55 rfl rfl rfl ?_
          refine zn_getf hB zd220_56 rfl rfl (fun q56 r56 => ?_)
          refine zn_con hB zd220_59 rfl ?_
          refine zn_iadd hB zd220_60 (by omega) (by omega) ?_
          refine zn_putf hB zd220_61 rfl rfl (fun h => by cases h) rfl ?_
          refine zn_ald hB zd220_64 rfl rfl rfl ?_
          refine zn_ald hB zd220_65 rfl rfl rfl ?_
          refine zn_getf hB zd220_66 rfl rfl (fun q66 r66 => ?_)
          refine zn_con hB zd220_69 rfl ?_
          refine zn_iadd hB zd220_70 (by omega) (by omega) ?_
          refine zn_putf hB zd220_71 rfl rfl (fun h => by cases h) rfl ?_
          refine zn_ald hB zd220_74 rfl rfl rfl ?_
          refine zn_iv0 hB (zh221 (D := D2) (said := said2) (w := zn_up w1 wt2 (1048576 * s)) (pl := pl1 + 1) (cm := cm2) (wt := wt2 + 1) (d := d2) (len := len) (e0 := e0)) zd220_75 zxt221 rfl ⟨rfl, rfl, rfl, hpush⟩ (fun r75 F75 G75 hq75 => ?_)
          rcases hq75 with ⟨rfl, p0, f0, o0, c0, w0, n0, s0, t0, rfl, rfl⟩ | ⟨rfl, D3, said3, w3, pl3, op3, cm3, wt3, nb3, rfl, rfl, f1, f2, f3, f4⟩
          · refine zn_zne hB zd220_78 rfl (fun h78 => ?_) (fun h78 => ?_)
            · exfalso; omega
            · refine zn_con hB zd220_81 rfl ?_
              exact hret _ _ _ _ _ zd220_82 (by constructor <;> decide) (Or.inl ⟨rfl, _, _, _, _, _, _, _, _, rfl, rfl⟩)
          · refine zn_zne hB zd220_78 rfl (fun h78 => ?_) (fun h78 => ?_)
            · have hg3 : cm3 + zp_pn w3 wt3 - cm - zp_pn w wt ≤ pl3 - pl := by
                have q := f3.1
                have e1 : zp_pn (zn_up w1 wt2 (1048576 * s)) (wt2 + 1) = zp_pn w1 wt2 + 1 := by
                  rw [zp_pn_s c2, zp_pn_up (Int.le_refl _), zn_up_s, if_pos (by omega)]
                have q3 := f4
                have q4 := k1.2.2.2.2.1
                have q5 := hg5
                omega
              refine zn_goto hB zd220_163 rfl ?_
              exact ih _ _ _ _ _ _ _ _ _ _ f3 (zp_b_sign hb2 (by omega) hs26 a2 f1) hg3 (by have := f3.1; omega)
            · exfalso; omega
        · refine zn_con hB zd220_33 rfl ?_
          refine zn_goto hB zd220_34 rfl ?_
          refine zn_iv1 hB (zh228 (D := D1) (said := said1) (w := w1) (cm := cm1) (wt := wt1) (d := d1) (pl := pl1)) zd220_38 zxt228 rfl ⟨rfl, rfl, rfl, h1, zp_b_run hb hl a8 a2⟩ (fun r38 F38 G38 hq38 => ?_)
          obtain ⟨rfl, D2, said2, cm2, wt2, d2, rfl, rfl, k1, k2⟩ := hq38
          have hs2 := k1.1
          have hb2 := zp_b_cs hb hl hs2.1.2.1 k1
          obtain ⟨c1, c2, c3, c4, c5, c6, c7, c8⟩ := hs2.1
          have hpn2 := zp_pn_nn (w := w1) (a := wt2)
          have k3 := k1.2.2.2.2.2.2.1
          have k4 := k1.2.2.2.1
          have k5 := k1.2.2.1
          have k6 := hb2.2.2.1
          have hg5 : cm2 + wt2 = cm1 + wt1 := k1.2.2.2.2.2.2.2
          have hpush := zp_push (pl2 := pl1 + 1) (x := 1048576 * s) hs2 (by omega) (by rw [if_pos (by omega)]; omega)
          refine zn_ald hB zd220_41 rfl rfl rfl ?_
          refine zn_getr hB zd220_42 rfl ?_
          refine zn_ald hB zd220_45 rfl rfl rfl ?_
          refine zn_getf hB zd220_46 rfl rfl (fun q46 r46 => ?_)
          refine zn_con (n := 1048576) hB zd220_49 (by decide +kernel) ?_
          refine zn_ild hB zd220_51 rfl rfl ?_
          refine zn_imul hB zd220_52 (by omega) (by omega) ?_
          refine zn_iast hB zd220_53 rfl rfl (by omega) (by omega) ?_
          refine zn_ald hB zd220_54 rfl rfl rfl ?_
          refine zn_ald hB zd220_55 rfl rfl rfl ?_
          refine zn_getf hB zd220_56 rfl rfl (fun q56 r56 => ?_)
          refine zn_con hB zd220_59 rfl ?_
          refine zn_iadd hB zd220_60 (by omega) (by omega) ?_
          refine zn_putf hB zd220_61 rfl rfl (fun h => by cases h) rfl ?_
          refine zn_ald hB zd220_64 rfl rfl rfl ?_
          refine zn_ald hB zd220_65 rfl rfl rfl ?_
          refine zn_getf hB zd220_66 rfl rfl (fun q66 r66 => ?_)
          refine zn_con hB zd220_69 rfl ?_
          refine zn_iadd hB zd220_70 (by omega) (by omega) ?_
          refine zn_putf hB zd220_71 rfl rfl (fun h => by cases h) rfl ?_
          refine zn_ald hB zd220_74 rfl rfl rfl ?_
          refine zn_iv0 hB (zh221 (D := D2) (said := said2) (w := zn_up w1 wt2 (1048576 * s)) (pl := pl1 + 1) (cm := cm2) (wt := wt2 + 1) (d := d2) (len := len) (e0 := e0)) zd220_75 zxt221 rfl ⟨rfl, rfl, rfl, hpush⟩ (fun r75 F75 G75 hq75 => ?_)
          rcases hq75 with ⟨rfl, p0, f0, o0, c0, w0, n0, s0, t0, rfl, rfl⟩ | ⟨rfl, D3, said3, w3, pl3, op3, cm3, wt3, nb3, rfl, rfl, f1, f2, f3, f4⟩
          · refine zn_zne hB zd220_78 rfl (fun h78 => ?_) (fun h78 => ?_)
            · exfalso; omega
            · refine zn_con hB zd220_81 rfl ?_
              exact hret _ _ _ _ _ zd220_82 (by constructor <;> decide) (Or.inl ⟨rfl, _, _, _, _, _, _, _, _, rfl, rfl⟩)
          · refine zn_zne hB zd220_78 rfl (fun h78 => ?_) (fun h78 => ?_)
            · have hg3 : cm3 + zp_pn w3 wt3 - cm - zp_pn w wt ≤ pl3 - pl := by
                have q := f3.1
                have e1 : zp_pn (zn_up w1 wt2 (1048576 * s)) (wt2 + 1) = zp_pn w1 wt2 + 1 := by
                  rw [zp_pn_s c2, zp_pn_up (Int.le_refl _), zn_up_s, if_pos (by omega)]
                have q3 := f4
                have q4 := k1.2.2.2.2.1
                have q5 := hg5
                omega
              refine zn_goto hB zd220_163 rfl ?_
              exact ih _ _ _ _ _ _ _ _ _ _ f3 (zp_b_sign hb2 (by omega) hs26 a2 f1) hg3 (by have := f3.1; omega)
            · exfalso; omega
  refine zn_ald hB zd220_0 rfl rfl rfl ?_
  refine zn_getf hB zd220_1 rfl rfl (fun q1 r1 => ?_)
  refine zn_ist hB zd220_4 rfl rfl rfl ?_
  refine zn_ald hB zd220_5 rfl rfl rfl ?_
  refine zn_iv0 hB (zh221 (D := D) (said := said) (w := w) (pl := pl) (cm := cm) (wt := wt) (d := d) (len := len) (e0 := e0)) zd220_6 zxt221 rfl ⟨rfl, rfl, rfl, hs⟩ (fun r6 F6 G6 hq6 => ?_)
  rcases hq6 with ⟨rfl, p0, f0, o0, c0, w0, n0, s0, t0, rfl, rfl⟩ | ⟨rfl, D3, said3, w3, pl3, op3, cm3, wt3, nb3, rfl, rfl, f1, f2, f3, f4⟩
  · refine zn_zne hB zd220_9 rfl (fun h9 => ?_) (fun h9 => ?_)
    · exfalso; omega
    · refine zn_con hB zd220_12 rfl ?_
      exact hret _ _ _ _ _ zd220_13 (by constructor <;> decide) (Or.inl ⟨rfl, _, _, _, _, _, _, _, _, rfl, rfl⟩)
  · refine zn_zne hB zd220_9 rfl (fun h9 => ?_) (fun h9 => ?_)
    · obtain ⟨x1, x2, x3, x4, x5, x6, x7⟩ := f1
      exact key ((len - pl3).toNat + 1) _ _ _ _ _ _ _ _ _ _ f3 ⟨x1, x2, x3, x4, fun j j1 j2 => Or.inr (x5 j j1 j2), by omega, f2⟩ (by omega) (by omega)
    · exfalso; omega
end ZREAD3
