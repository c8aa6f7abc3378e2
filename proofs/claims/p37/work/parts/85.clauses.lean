/-! What a law says of a rule; whether parts are there. -/
section ZCLAUSES
variable {ru mo pl len fl op cm0 wt nb sm tp cs : Int} {tape said w sl sf sh st codes co cf ch ct stk fa : Int → Int} {Fr : List Int} {Gr : List (Int → Int)}
theorem zd248_0 : decode zxm248.2.1 0 = .ok (.iconst 0, 1) := by decide +kernel
theorem zd248_1 : decode zxm248.2.1 1 = .ok (.istore_n 2, 1) := by decide +kernel
theorem zd248_2 : decode zxm248.2.1 2 = .ok (.iload_n 2, 1) := by decide +kernel
theorem zd248_3 : decode zxm248.2.1 3 = .ok (.aload_n 0, 1) := by decide +kernel
theorem zd248_4 : decode zxm248.2.1 4 = .ok (.getfield 268, 3) := by decide +kernel
theorem zd248_7 : decode zxm248.2.1 7 = .ok (.if_icmp .ge 41, 3) := by decide +kernel
theorem zd248_10 : decode zxm248.2.1 10 = .ok (.aload_n 0, 1) := by decide +kernel
theorem zd248_11 : decode zxm248.2.1 11 = .ok (.getfield 44, 3) := by decide +kernel
theorem zd248_14 : decode zxm248.2.1 14 = .ok (.iload_n 2, 1) := by decide +kernel
theorem zd248_15 : decode zxm248.2.1 15 = .ok (.iaload, 1) := by decide +kernel
theorem zd248_16 : decode zxm248.2.1 16 = .ok (.iload_n 1, 1) := by decide +kernel
theorem zd248_17 : decode zxm248.2.1 17 = .ok (.if_icmp .ne 25, 3) := by decide +kernel
theorem zd248_20 : decode zxm248.2.1 20 = .ok (.aload_n 0, 1) := by decide +kernel
theorem zd248_21 : decode zxm248.2.1 21 = .ok (.aload_n 0, 1) := by decide +kernel
theorem zd248_22 : decode zxm248.2.1 22 = .ok (.getfield 50, 3) := by decide +kernel
theorem zd248_25 : decode zxm248.2.1 25 = .ok (.iload_n 2, 1) := by decide +kernel
theorem zd248_26 : decode zxm248.2.1 26 = .ok (.iaload, 1) := by decide +kernel
theorem zd248_27 : decode zxm248.2.1 27 = .ok (.aload_n 0, 1) := by decide +kernel
theorem zd248_28 : decode zxm248.2.1 28 = .ok (.getfield 53, 3) := by decide +kernel
theorem zd248_31 : decode zxm248.2.1 31 = .ok (.iload_n 2, 1) := by decide +kernel
theorem zd248_32 : decode zxm248.2.1 32 = .ok (.iaload, 1) := by decide +kernel
theorem zd248_33 : decode zxm248.2.1 33 = .ok (.invokevirtual 275, 3) := by decide +kernel
theorem zd248_36 : decode zxm248.2.1 36 = .ok (.iconst 1, 1) := by decide +kernel
theorem zd248_37 : decode zxm248.2.1 37 = .ok (.if_icmp .ne 5, 3) := by decide +kernel
theorem zd248_40 : decode zxm248.2.1 40 = .ok (.iconst 1, 1) := by decide +kernel
theorem zd248_41 : decode zxm248.2.1 41 = .ok (.ireturn, 1) := by decide +kernel
theorem zd248_42 : decode zxm248.2.1 42 = .ok (.iinc 2 1, 3) := by decide +kernel
theorem zd248_45 : decode zxm248.2.1 45 = .ok (.goto (-43), 3) := by decide +kernel
theorem zd248_48 : decode zxm248.2.1 48 = .ok (.iconst 0, 1) := by decide +kernel
theorem zd248_49 : decode zxm248.2.1 49 = .ok (.ireturn, 1) := by decide +kernel
theorem zh248  : zn_OK z_TB z_cl z_KX zyM zxm248 (2, 120) (fun va F G => va = [.inr 0, .inl ru] ∧ F = pl :: len :: fl :: op :: cm0 :: wt :: nb :: sm :: tp :: cs :: Fr ∧ G = tape :: said :: w :: sl :: sf :: sh :: st :: codes :: co :: cf :: ch :: ct :: stk :: fa :: Gr ∧ zp_J codes cs cf ch ct) (fun va F G r F' G' => ∃ v stk', r = some v ∧ (v = 0 ∨ v = 1) ∧ F' = pl :: len :: fl :: op :: cm0 :: wt :: nb :: sm :: tp :: cs :: Fr ∧ G' = tape :: said :: w :: sl :: sf :: sh :: st :: codes :: co :: cf :: ch :: ct :: stk' :: fa :: Gr) := zn_meth (K := zkM) (FT := z_FT) (MT := z_MT) (n := 2) zxp248 (z_ks13 _ (fun _ h => List.mem_cons_of_mem _ h) _ _ _ _ (fun j r h _ => by cases h)) (fun _ _ => zs_KX_p) (by decide +kernel) (fun va F G h => by obtain ⟨rfl, _⟩ := h; rfl) rfl fun good va F G hB hret hvret hP => by
  obtain ⟨rfl, rfl, rfl, hJ⟩ := hP
  obtain ⟨D, cm, x1, x2, x3, x4, x5, x6⟩ := hJ
  have key : ∀ (m : Nat) (k : Int) (stk : Int → Int), 0 ≤ k → k ≤ 14 → 14 - k < m → good 2 [.inr 0, .inl ru, .inl k] [] (pl :: len :: fl :: op :: cm0 :: wt :: nb :: sm :: tp :: cs :: Fr) (tape :: said :: w :: sl :: sf :: sh :: st :: codes :: co :: cf :: ch :: ct :: stk :: fa :: Gr) := by
    intro m
    induction m with
    | zero =>
      intro k stk c1 c2 c3
      exfalso; omega
    | succ m ih =>
      intro k stk c1 c2 c3
      refine zn_ild hB zd248_2 rfl rfl ?_
      refine zn_ald hB zd248_3 rfl rfl rfl ?_
      refine zn_getf hB zd248_4 rfl rfl (fun q4 r4 => ?_)
      refine zn_cge hB zd248_7 rfl (fun h7 => ?_) (fun h7 => ?_)
      · refine zn_con hB zd248_48 rfl ?_
        exact hret _ _ _ _ _ zd248_49 (show (0 : Int) ≤ 0 ∧ (0 : Int) ≤ 1 by decide) ⟨_, _, rfl, Or.inl rfl, rfl, rfl⟩
      · obtain ⟨y1, y2, y3, y4, y5, y6⟩ := x6 k c1 (by omega)
        refine zn_ald hB zd248_10 rfl rfl rfl ?_
        refine zn_getr hB zd248_11 rfl ?_
        refine zn_ild hB zd248_14 rfl rfl ?_
        refine zn_iald hB zd248_15 rfl rfl (by omega) (by omega) (fun q15 r15 => ?_)
        refine zn_ild hB zd248_16 rfl rfl ?_
        refine zn_cne hB zd248_17 rfl (fun h17 => ?_) (fun h17 => ?_)
        · refine zn_iinc hB zd248_42 rfl rfl (by omega) (by omega) ?_
          refine zn_goto hB zd248_45 rfl ?_
          exact ih _ _ (by omega) (by omega) (by omega)
        · refine zn_ald hB zd248_20 rfl rfl rfl ?_
          refine zn_ald hB zd248_21 rfl rfl rfl ?_
          refine zn_getr hB zd248_22 rfl ?_
          refine zn_ild hB zd248_25 rfl rfl ?_
          refine zn_iald hB zd248_26 rfl rfl (by omega) (by omega) (fun q26 r26 => ?_)
          refine zn_ald hB zd248_27 rfl rfl rfl ?_
          refine zn_getr hB zd248_28 rfl ?_
          refine zn_ild hB zd248_31 rfl rfl ?_
          refine zn_iald hB zd248_32 rfl rfl (by omega) (by omega) (fun q32 r32 => ?_)
          refine zn_iv2 hB (zh249 (cm := cm) (D := D)) zd248_33 zxt249 rfl ⟨rfl, rfl, by omega, by omega, by omega, by omega, y6, x3⟩ (fun r33 F33 G33 hq33 => ?_)
          obtain ⟨v33, stk33, rfl, rfl, rfl⟩ := hq33
          refine zn_con hB zd248_36 rfl ?_
          refine zn_cne hB zd248_37 rfl (fun h37 => ?_) (fun h37 => ?_)
          · refine zn_iinc hB zd248_42 rfl rfl (by omega) (by omega) ?_
            refine zn_goto hB zd248_45 rfl ?_
            exact ih _ _ (by omega) (by omega) (by omega)
          · refine zn_con hB zd248_40 rfl ?_
            exact hret _ _ _ _ _ zd248_41 (show (0 : Int) ≤ 1 ∧ (1 : Int) ≤ 1 by decide) ⟨_, _, rfl, Or.inr rfl, rfl, rfl⟩
  refine zn_con hB zd248_0 rfl ?_
  refine zn_ist hB zd248_1 rfl rfl rfl ?_
  exact key 15 0 _ (by omega) (by omega) (by omega)
theorem zd288_0 : decode zxm288.2.1 0 = .ok (.iconst 0, 1) := by decide +kernel
theorem zd288_1 : decode zxm288.2.1 1 = .ok (.istore_n 3, 1) := by decide +kernel
theorem zd288_2 : decode zxm288.2.1 2 = .ok (.iload_n 3, 1) := by decide +kernel
theorem zd288_3 : decode zxm288.2.1 3 = .ok (.aload_n 0, 1) := by decide +kernel
theorem zd288_4 : decode zxm288.2.1 4 = .ok (.getfield 268, 3) := by decide +kernel
theorem zd288_7 : decode zxm288.2.1 7 = .ok (.if_icmp .ge 82, 3) := by decide +kernel
theorem zd288_10 : decode zxm288.2.1 10 = .ok (.aload_n 0, 1) := by decide +kernel
theorem zd288_11 : decode zxm288.2.1 11 = .ok (.getfield 44, 3) := by decide +kernel
theorem zd288_14 : decode zxm288.2.1 14 = .ok (.iload_n 3, 1) := by decide +kernel
theorem zd288_15 : decode zxm288.2.1 15 = .ok (.iaload, 1) := by decide +kernel
theorem zd288_16 : decode zxm288.2.1 16 = .ok (.iload_n 1, 1) := by decide +kernel
theorem zd288_17 : decode zxm288.2.1 17 = .ok (.if_icmp .ne 66, 3) := by decide +kernel
theorem zd288_20 : decode zxm288.2.1 20 = .ok (.aload_n 0, 1) := by decide +kernel
theorem zd288_21 : decode zxm288.2.1 21 = .ok (.aload_n 0, 1) := by decide +kernel
theorem zd288_22 : decode zxm288.2.1 22 = .ok (.getfield 50, 3) := by decide +kernel
theorem zd288_25 : decode zxm288.2.1 25 = .ok (.iload_n 3, 1) := by decide +kernel
theorem zd288_26 : decode zxm288.2.1 26 = .ok (.iaload, 1) := by decide +kernel
theorem zd288_27 : decode zxm288.2.1 27 = .ok (.aload_n 0, 1) := by decide +kernel
theorem zd288_28 : decode zxm288.2.1 28 = .ok (.getfield 53, 3) := by decide +kernel
theorem zd288_31 : decode zxm288.2.1 31 = .ok (.iload_n 3, 1) := by decide +kernel
theorem zd288_32 : decode zxm288.2.1 32 = .ok (.iaload, 1) := by decide +kernel
theorem zd288_33 : decode zxm288.2.1 33 = .ok (.invokevirtual 275, 3) := by decide +kernel
theorem zd288_36 : decode zxm288.2.1 36 = .ok (.iconst 1, 1) := by decide +kernel
theorem zd288_37 : decode zxm288.2.1 37 = .ok (.if_icmp .eq 6, 3) := by decide +kernel
theorem zd288_40 : decode zxm288.2.1 40 = .ok (.goto 43, 3) := by decide +kernel
theorem zd288_43 : decode zxm288.2.1 43 = .ok (.aload_n 0, 1) := by decide +kernel
theorem zd288_44 : decode zxm288.2.1 44 = .ok (.aload_n 0, 1) := by decide +kernel
theorem zd288_45 : decode zxm288.2.1 45 = .ok (.getfield 47, 3) := by decide +kernel
theorem zd288_48 : decode zxm288.2.1 48 = .ok (.iload_n 3, 1) := by decide +kernel
theorem zd288_49 : decode zxm288.2.1 49 = .ok (.iaload, 1) := by decide +kernel
theorem zd288_50 : decode zxm288.2.1 50 = .ok (.aload_n 0, 1) := by decide +kernel
theorem zd288_51 : decode zxm288.2.1 51 = .ok (.getfield 50, 3) := by decide +kernel
theorem zd288_54 : decode zxm288.2.1 54 = .ok (.iload_n 3, 1) := by decide +kernel
theorem zd288_55 : decode zxm288.2.1 55 = .ok (.iaload, 1) := by decide +kernel
theorem zd288_56 : decode zxm288.2.1 56 = .ok (.invokevirtual 275, 3) := by decide +kernel
theorem zd288_59 : decode zxm288.2.1 59 = .ok (.istore 4, 2) := by decide +kernel
theorem zd288_61 : decode zxm288.2.1 61 = .ok (.iload 4, 2) := by decide +kernel
theorem zd288_63 : decode zxm288.2.1 63 = .ok (.ifCond .ge 7, 3) := by decide +kernel
theorem zd288_66 : decode zxm288.2.1 66 = .ok (.iconst 0, 1) := by decide +kernel
theorem zd288_67 : decode zxm288.2.1 67 = .ok (.goto 15, 3) := by decide +kernel
theorem zd288_70 : decode zxm288.2.1 70 = .ok (.iload 4, 2) := by decide +kernel
theorem zd288_72 : decode zxm288.2.1 72 = .ok (.iload_n 2, 1) := by decide +kernel
theorem zd288_73 : decode zxm288.2.1 73 = .ok (.if_icmp .le 7, 3) := by decide +kernel
theorem zd288_76 : decode zxm288.2.1 76 = .ok (.iload_n 2, 1) := by decide +kernel
theorem zd288_77 : decode zxm288.2.1 77 = .ok (.goto 5, 3) := by decide +kernel
theorem zd288_80 : decode zxm288.2.1 80 = .ok (.iload 4, 2) := by decide +kernel
theorem zd288_82 : decode zxm288.2.1 82 = .ok (.ireturn, 1) := by decide +kernel
theorem zd288_83 : decode zxm288.2.1 83 = .ok (.iinc 3 1, 3) := by decide +kernel
theorem zd288_86 : decode zxm288.2.1 86 = .ok (.goto (-84), 3) := by decide +kernel
theorem zd288_89 : decode zxm288.2.1 89 = .ok (.iconst 0, 1) := by decide +kernel
theorem zd288_90 : decode zxm288.2.1 90 = .ok (.ireturn, 1) := by decide +kernel
theorem zh288  : zn_OK z_TB z_cl z_KX zyM zxm288 (2, 120) (fun va F G => va = [.inr 0, .inl ru, .inl mo] ∧ F = pl :: len :: fl :: op :: cm0 :: wt :: nb :: sm :: tp :: cs :: Fr ∧ G = tape :: said :: w :: sl :: sf :: sh :: st :: codes :: co :: cf :: ch :: ct :: stk :: fa :: Gr ∧ zp_J codes cs cf ch ct ∧ 0 ≤ mo) (fun va F G r F' G' => ∃ v stk', r = some v ∧ 0 ≤ v ∧ v ≤ mo ∧ F' = pl :: len :: fl :: op :: cm0 :: wt :: nb :: sm :: tp :: cs :: Fr ∧ G' = tape :: said :: w :: sl :: sf :: sh :: st :: codes :: co :: cf :: ch :: ct :: stk' :: fa :: Gr) := zn_meth (K := zkM) (FT := z_FT) (MT := z_MT) (n := 3) zxp288 (z_ks13 _ (fun _ h => List.mem_cons_of_mem _ h) _ _ _ _ (fun j r h _ => by cases h)) (fun _ _ => zs_KX_p) (by decide +kernel) (fun va F G h => by obtain ⟨rfl, _⟩ := h; rfl) rfl fun good va F G hB hret hvret hP => by
  obtain ⟨rfl, rfl, rfl, hJ, h0⟩ := hP
  obtain ⟨D, cm, x1, x2, x3, x4, x5, x6⟩ := hJ
  have key : ∀ (m : Nat) (k : Int) (x : zNV) (stk : Int → Int), 0 ≤ k → k ≤ 14 → 14 - k < m → good 2 [.inr 0, .inl ru, .inl mo, .inl k, x] [] (pl :: len :: fl :: op :: cm0 :: wt :: nb :: sm :: tp :: cs :: Fr) (tape :: said :: w :: sl :: sf :: sh :: st :: codes :: co :: cf :: ch :: ct :: stk :: fa :: Gr) := by
    intro m
    induction m with
    | zero =>
      intro k x stk c1 c2 c3
      exfalso; omega
    | succ m ih =>
      intro k x stk c1 c2 c3
      refine zn_ild hB zd288_2 rfl rfl ?_
      refine zn_ald hB zd288_3 rfl rfl rfl ?_
      refine zn_getf hB zd288_4 rfl rfl (fun q4 r4 => ?_)
      refine zn_cge hB zd288_7 rfl (fun h7 => ?_) (fun h7 => ?_)
      · refine zn_con hB zd288_89 rfl ?_
        exact hret _ _ _ _ _ zd288_90 trivial ⟨_, _, rfl, by omega, by omega, rfl, rfl⟩
      · obtain ⟨y1, y2, y3, y4, y5, y6⟩ := x6 k c1 (by omega)
        refine zn_ald hB zd288_10 rfl rfl rfl ?_
        refine zn_getr hB zd288_11 rfl ?_
        refine zn_ild hB zd288_14 rfl rfl ?_
        refine zn_iald hB zd288_15 rfl rfl (by omega) (by omega) (fun q15 r15 => ?_)
        refine zn_ild hB zd288_16 rfl rfl ?_
        refine zn_cne hB zd288_17 rfl (fun h17 => ?_) (fun h17 => ?_)
        · refine zn_iinc hB zd288_83 rfl rfl (by omega) (by omega) ?_
          refine zn_goto hB zd288_86 rfl ?_
          exact ih _ _ _ (by omega) (by omega) (by omega)
        · refine zn_ald hB zd288_20 rfl rfl rfl ?_
          refine zn_ald hB zd288_21 rfl rfl rfl ?_
          refine zn_getr hB zd288_22 rfl ?_
          refine zn_ild hB zd288_25 rfl rfl ?_
          refine zn_iald hB zd288_26 rfl rfl (by omega) (by omega) (fun q26 r26 => ?_)
          refine zn_ald hB zd288_27 rfl rfl rfl ?_
          refine zn_getr hB zd288_28 rfl ?_
          refine zn_ild hB zd288_31 rfl rfl ?_
          refine zn_iald hB zd288_32 rfl rfl (by omega) (by omega) (fun q32 r32 => ?_)
          refine zn_iv2 hB (zh249 (cm := cm) (D := D)) zd288_33 zxt249 rfl ⟨rfl, rfl, by omega, by omega, by omega, by omega, y6, x3⟩ (fun r33 F33 G33 hq33 => ?_)
          obtain ⟨v33, stk33, rfl, rfl, rfl⟩ := hq33
          refine zn_con hB zd288_36 rfl ?_
          refine zn_ceq hB zd288_37 rfl (fun h37 => ?_) (fun h37 => ?_)
          · refine zn_ald hB zd288_43 rfl rfl rfl ?_
            refine zn_ald hB zd288_44 rfl rfl rfl ?_
            refine zn_getr hB zd288_45 rfl ?_
            refine zn_ild hB zd288_48 rfl rfl ?_
            refine zn_iald hB zd288_49 rfl rfl (by omega) (by omega) (fun q49 r49 => ?_)
            refine zn_ald hB zd288_50 rfl rfl rfl ?_
            refine zn_getr hB zd288_51 rfl ?_
            refine zn_ild hB zd288_54 rfl rfl ?_
            refine zn_iald hB zd288_55 rfl rfl (by omega) (by omega) (fun q55 r55 => ?_)
            refine zn_iv2 hB (zh249 (cm := cm) (D := D)) zd288_56 zxt249 rfl ⟨rfl, rfl, by omega, by omega, by omega, by omega, y5, x3⟩ (fun r56 F56 G56 hq56 => ?_)
            obtain ⟨v56, stk56, rfl, rfl, rfl⟩ := hq56
            refine zn_ist hB zd288_59 rfl rfl rfl ?_
            refine zn_ild hB zd288_61 rfl rfl ?_
            refine zn_zge hB zd288_63 rfl (fun h63 => ?_) (fun h63 => ?_)
            · refine zn_ild hB zd288_70 rfl rfl ?_
              refine zn_ild hB zd288_72 rfl rfl ?_
              refine zn_cle hB zd288_73 rfl (fun h73 => ?_) (fun h73 => ?_)
              · refine zn_ild hB zd288_80 rfl rfl ?_
                exact hret _ _ _ _ _ zd288_82 trivial ⟨_, _, rfl, by omega, by omega, rfl, rfl⟩
              · refine zn_ild hB zd288_76 rfl rfl ?_
                refine zn_goto hB zd288_77 rfl ?_
                exact hret _ _ _ _ _ zd288_82 trivial ⟨_, _, rfl, by omega, by omega, rfl, rfl⟩
            · refine zn_con hB zd288_66 rfl ?_
              refine zn_goto hB zd288_67 rfl ?_
              exact hret _ _ _ _ _ zd288_82 trivial ⟨_, _, rfl, by omega, by omega, rfl, rfl⟩
          · refine zn_goto hB zd288_40 rfl ?_
            refine zn_iinc hB zd288_83 rfl rfl (by omega) (by omega) ?_
            refine zn_goto hB zd288_86 rfl ?_
            exact ih _ _ _ (by omega) (by omega) (by omega)
  refine zn_con hB zd288_0 rfl ?_
  refine zn_ist hB zd288_1 rfl rfl rfl ?_
  exact key 15 0 _ _ (by omega) (by omega) (by omega)
end ZCLAUSES
abbrev zyHa : zNL := (4, [(0, 12)], [], [(0, 12, 43, 1), (0, 12, 42, 2), (0, 12, 45, 3)], [(1, 0, 288, 0), (2, 0, 6912, 1), (3, 0, 12, 2)])
section ZPARTS
variable {pa ma : Int} {pm po tp : Int → Int} {Gr : List (Int → Int)}
theorem zd282_0 : decode zxm282.2.1 0 = .ok (.iconst 0, 1) := by decide +kernel
theorem zd282_1 : decode zxm282.2.1 1 = .ok (.istore_n 3, 1) := by decide +kernel
theorem zd282_2 : decode zxm282.2.1 2 = .ok (.iconst 0, 1) := by decide +kernel
theorem zd282_3 : decode zxm282.2.1 3 = .ok (.istore 4, 2) := by decide +kernel
theorem zd282_5 : decode zxm282.2.1 5 = .ok (.iload 4, 2) := by decide +kernel
theorem zd282_7 : decode zxm282.2.1 7 = .ok (.iload_n 2, 1) := by decide +kernel
theorem zd282_8 : decode zxm282.2.1 8 = .ok (.if_icmp .ge 84, 3) := by decide +kernel
theorem zd282_11 : decode zxm282.2.1 11 = .ok (.iload_n 3, 1) := by decide +kernel
theorem zd282_12 : decode zxm282.2.1 12 = .ok (.aload_n 0, 1) := by decide +kernel
theorem zd282_13 : decode zxm282.2.1 13 = .ok (.getfield 89, 3) := by decide +kernel
theorem zd282_16 : decode zxm282.2.1 16 = .ok (.iload_n 1, 1) := by decide +kernel
theorem zd282_17 : decode zxm282.2.1 17 = .ok (.iaload, 1) := by decide +kernel
theorem zd282_18 : decode zxm282.2.1 18 = .ok (.if_icmp .ge 31, 3) := by decide +kernel
theorem zd282_21 : decode zxm282.2.1 21 = .ok (.aload_n 0, 1) := by decide +kernel
theorem zd282_22 : decode zxm282.2.1 22 = .ok (.getfield 86, 3) := by decide +kernel
theorem zd282_25 : decode zxm282.2.1 25 = .ok (.bipush 24, 2) := by decide +kernel
theorem zd282_27 : decode zxm282.2.1 27 = .ok (.iload_n 1, 1) := by decide +kernel
theorem zd282_28 : decode zxm282.2.1 28 = .ok (.imul, 1) := by decide +kernel
theorem zd282_29 : decode zxm282.2.1 29 = .ok (.iload_n 3, 1) := by decide +kernel
theorem zd282_30 : decode zxm282.2.1 30 = .ok (.iadd, 1) := by decide +kernel
theorem zd282_31 : decode zxm282.2.1 31 = .ok (.iaload, 1) := by decide +kernel
theorem zd282_32 : decode zxm282.2.1 32 = .ok (.aload_n 0, 1) := by decide +kernel
theorem zd282_33 : decode zxm282.2.1 33 = .ok (.getfield 95, 3) := by decide +kernel
theorem zd282_36 : decode zxm282.2.1 36 = .ok (.iload 4, 2) := by decide +kernel
theorem zd282_38 : decode zxm282.2.1 38 = .ok (.iaload, 1) := by decide +kernel
theorem zd282_39 : decode zxm282.2.1 39 = .ok (.if_icmp .ge 10, 3) := by decide +kernel
theorem zd282_42 : decode zxm282.2.1 42 = .ok (.iload_n 3, 1) := by decide +kernel
theorem zd282_43 : decode zxm282.2.1 43 = .ok (.iconst 1, 1) := by decide +kernel
theorem zd282_44 : decode zxm282.2.1 44 = .ok (.iadd, 1) := by decide +kernel
theorem zd282_45 : decode zxm282.2.1 45 = .ok (.istore_n 3, 1) := by decide +kernel
theorem zd282_46 : decode zxm282.2.1 46 = .ok (.goto (-35), 3) := by decide +kernel
theorem zd282_49 : decode zxm282.2.1 49 = .ok (.iload_n 3, 1) := by decide +kernel
theorem zd282_50 : decode zxm282.2.1 50 = .ok (.aload_n 0, 1) := by decide +kernel
theorem zd282_51 : decode zxm282.2.1 51 = .ok (.getfield 89, 3) := by decide +kernel
theorem zd282_54 : decode zxm282.2.1 54 = .ok (.iload_n 1, 1) := by decide +kernel
theorem zd282_55 : decode zxm282.2.1 55 = .ok (.iaload, 1) := by decide +kernel
theorem zd282_56 : decode zxm282.2.1 56 = .ok (.if_icmp .eq 24, 3) := by decide +kernel
theorem zd282_59 : decode zxm282.2.1 59 = .ok (.aload_n 0, 1) := by decide +kernel
theorem zd282_60 : decode zxm282.2.1 60 = .ok (.getfield 86, 3) := by decide +kernel
theorem zd282_63 : decode zxm282.2.1 63 = .ok (.bipush 24, 2) := by decide +kernel
theorem zd282_65 : decode zxm282.2.1 65 = .ok (.iload_n 1, 1) := by decide +kernel
theorem zd282_66 : decode zxm282.2.1 66 = .ok (.imul, 1) := by decide +kernel
theorem zd282_67 : decode zxm282.2.1 67 = .ok (.iload_n 3, 1) := by decide +kernel
theorem zd282_68 : decode zxm282.2.1 68 = .ok (.iadd, 1) := by decide +kernel
theorem zd282_69 : decode zxm282.2.1 69 = .ok (.iaload, 1) := by decide +kernel
theorem zd282_70 : decode zxm282.2.1 70 = .ok (.aload_n 0, 1) := by decide +kernel
theorem zd282_71 : decode zxm282.2.1 71 = .ok (.getfield 95, 3) := by decide +kernel
theorem zd282_74 : decode zxm282.2.1 74 = .ok (.iload 4, 2) := by decide +kernel
theorem zd282_76 : decode zxm282.2.1 76 = .ok (.iaload, 1) := by decide +kernel
theorem zd282_77 : decode zxm282.2.1 77 = .ok (.if_icmp .eq 5, 3) := by decide +kernel
theorem zd282_80 : decode zxm282.2.1 80 = .ok (.iconst 0, 1) := by decide +kernel
theorem zd282_81 : decode zxm282.2.1 81 = .ok (.ireturn, 1) := by decide +kernel
theorem zd282_82 : decode zxm282.2.1 82 = .ok (.iload_n 3, 1) := by decide +kernel
theorem zd282_83 : decode zxm282.2.1 83 = .ok (.iconst 1, 1) := by decide +kernel
theorem zd282_84 : decode zxm282.2.1 84 = .ok (.iadd, 1) := by decide +kernel
theorem zd282_85 : decode zxm282.2.1 85 = .ok (.istore_n 3, 1) := by decide +kernel
theorem zd282_86 : decode zxm282.2.1 86 = .ok (.iinc 4 1, 3) := by decide +kernel
theorem zd282_89 : decode zxm282.2.1 89 = .ok (.goto (-84), 3) := by decide +kernel
theorem zd282_92 : decode zxm282.2.1 92 = .ok (.iconst 1, 1) := by decide +kernel
theorem zd282_93 : decode zxm282.2.1 93 = .ok (.ireturn, 1) := by decide +kernel
theorem zh282  : zn_OK z_TB z_cl z_KX zyHa zxm282 (0, 0) (fun va F G => va = [.inr 0, .inl pa, .inl ma] ∧ G = pm :: po :: tp :: Gr ∧ 0 ≤ pa ∧ pa < 288 ∧ 0 ≤ ma ∧ ma ≤ 12 ∧ ∀ j, 0 ≤ j → j < 288 → 0 ≤ pm j ∧ pm j ≤ 24) (fun va F G r F' G' => F' = F ∧ G' = G ∧ (r = some 0 ∨ r = some 1)) := zn_meth (K := zkM) (FT := z_FT) (MT := z_MT) (n := 3) zxp282 (z_ks13 _ (fun _ h => List.mem_cons_of_mem _ h) _ _ _ _ (fun j r h _ => by cases h)) (fun _ _ => zs_KX_p) (by decide +kernel) (fun va F G h => by obtain ⟨rfl, _⟩ := h; rfl) rfl fun good va F G hB hret hvret hP => by
  obtain ⟨rfl, rfl, h0, h1, h2, h3, hm⟩ := hP
  have hp := hm pa h0 h1
  have key : ∀ (m : Nat) (n k : Int), 0 ≤ n → n ≤ pm pa → 0 ≤ k → k < ma → (ma - k) * 30 + (24 - n) < m → good 11 [.inr 0, .inl pa, .inl ma, .inl n, .inl k] [] F (pm :: po :: tp :: Gr) := by
    intro m
    induction m with
    | zero =>
      intro n k c1 c2 c3 c4 c5
      exfalso; omega
    | succ m ih =>
      intro n k c1 c2 c3 c4 c5
      refine zn_ild hB zd282_11 rfl rfl ?_
      refine zn_ald hB zd282_12 rfl rfl rfl ?_
      refine zn_getr hB zd282_13 rfl ?_
      refine zn_ild hB zd282_16 rfl rfl ?_
      refine zn_iald hB zd282_17 rfl rfl (by omega) (by omega) (fun q17 r17 => ?_)
      refine zn_cge hB zd282_18 rfl (fun h18 => ?_) (fun h18 => ?_)
      · refine zn_ild hB zd282_49 rfl rfl ?_
        refine zn_ald hB zd282_50 rfl rfl rfl ?_
        refine zn_getr hB zd282_51 rfl ?_
        refine zn_ild hB zd282_54 rfl rfl ?_
        refine zn_iald hB zd282_55 rfl rfl (by omega) (by omega) (fun q55 r55 => ?_)
        refine zn_ceq hB zd282_56 rfl (fun h56 => ?_) (fun h56 => ?_)
        · refine zn_con hB zd282_80 rfl ?_
          exact hret _ _ _ _ _ zd282_81 (by constructor <;> decide) ⟨rfl, rfl, by first | exact Or.inl rfl | exact Or.inr rfl⟩
        · refine zn_ald hB zd282_59 rfl rfl rfl ?_
          refine zn_getr hB zd282_60 rfl ?_
          refine zn_con hB zd282_63 rfl ?_
          refine zn_ild hB zd282_65 rfl rfl ?_
          refine zn_imul hB zd282_66 (by omega) (by omega) ?_
          refine zn_ild hB zd282_67 rfl rfl ?_
          refine zn_iadd hB zd282_68 (by omega) (by omega) ?_
          refine zn_iald hB zd282_69 rfl rfl (by omega) (by omega) (fun q69 r69 => ?_)
          refine zn_ald hB zd282_70 rfl rfl rfl ?_
          refine zn_getr hB zd282_71 rfl ?_
          refine zn_ild hB zd282_74 rfl rfl ?_
          refine zn_iald hB zd282_76 rfl rfl (by omega) (by omega) (fun q76 r76 => ?_)
          refine zn_ceq hB zd282_77 rfl (fun h77 => ?_) (fun h77 => ?_)
          · refine zn_ild hB zd282_82 rfl rfl ?_
            refine zn_con hB zd282_83 rfl ?_
            refine zn_iadd hB zd282_84 (by omega) (by omega) ?_
            refine zn_ist hB zd282_85 rfl rfl rfl ?_
            refine zn_iinc hB zd282_86 rfl rfl (by omega) (by omega) ?_
            refine zn_goto hB zd282_89 rfl ?_
            refine zn_ild hB zd282_5 rfl rfl ?_
            refine zn_ild hB zd282_7 rfl rfl ?_
            refine zn_cge hB zd282_8 rfl (fun h8 => ?_) (fun h8 => ?_)
            · refine zn_con hB zd282_92 rfl ?_
              exact hret _ _ _ _ _ zd282_93 (by constructor <;> decide) ⟨rfl, rfl, by first | exact Or.inl rfl | exact Or.inr rfl⟩
            · exact ih _ _ (by omega) (by omega) (by omega) (by omega) (by omega)
          · refine zn_con hB zd282_80 rfl ?_
            exact hret _ _ _ _ _ zd282_81 (by constructor <;> decide) ⟨rfl, rfl, by first | exact Or.inl rfl | exact Or.inr rfl⟩
      · refine zn_ald hB zd282_21 rfl rfl rfl ?_
        refine zn_getr hB zd282_22 rfl ?_
        refine zn_con hB zd282_25 rfl ?_
        refine zn_ild hB zd282_27 rfl rfl ?_
        refine zn_imul hB zd282_28 (by omega) (by omega) ?_
        refine zn_ild hB zd282_29 rfl rfl ?_
        refine zn_iadd hB zd282_30 (by omega) (by omega) ?_
        refine zn_iald hB zd282_31 rfl rfl (by omega) (by omega) (fun q31 r31 => ?_)
        refine zn_ald hB zd282_32 rfl rfl rfl ?_
        refine zn_getr hB zd282_33 rfl ?_
        refine zn_ild hB zd282_36 rfl rfl ?_
        refine zn_iald hB zd282_38 rfl rfl (by omega) (by omega) (fun q38 r38 => ?_)
        refine zn_cge hB zd282_39 rfl (fun h39 => ?_) (fun h39 => ?_)
        · refine zn_ild hB zd282_49 rfl rfl ?_
          refine zn_ald hB zd282_50 rfl rfl rfl ?_
          refine zn_getr hB zd282_51 rfl ?_
          refine zn_ild hB zd282_54 rfl rfl ?_
          refine zn_iald hB zd282_55 rfl rfl (by omega) (by omega) (fun q55 r55 => ?_)
          refine zn_ceq hB zd282_56 rfl (fun h56 => ?_) (fun h56 => ?_)
          · refine zn_con hB zd282_80 rfl ?_
            exact hret _ _ _ _ _ zd282_81 (by constructor <;> decide) ⟨rfl, rfl, by first | exact Or.inl rfl | exact Or.inr rfl⟩
          · refine zn_ald hB zd282_59 rfl rfl rfl ?_
            refine zn_getr hB zd282_60 rfl ?_
            refine zn_con hB zd282_63 rfl ?_
            refine zn_ild hB zd282_65 rfl rfl ?_
            refine zn_imul hB zd282_66 (by omega) (by omega) ?_
            refine zn_ild hB zd282_67 rfl rfl ?_
            refine zn_iadd hB zd282_68 (by omega) (by omega) ?_
            refine zn_iald hB zd282_69 rfl rfl (by omega) (by omega) (fun q69 r69 => ?_)
            refine zn_ald hB zd282_70 rfl rfl rfl ?_
            refine zn_getr hB zd282_71 rfl ?_
            refine zn_ild hB zd282_74 rfl rfl ?_
            refine zn_iald hB zd282_76 rfl rfl (by omega) (by omega) (fun q76 r76 => ?_)
            refine zn_ceq hB zd282_77 rfl (fun h77 => ?_) (fun h77 => ?_)
            · refine zn_ild hB zd282_82 rfl rfl ?_
              refine zn_con hB zd282_83 rfl ?_
              refine zn_iadd hB zd282_84 (by omega) (by omega) ?_
              refine zn_ist hB zd282_85 rfl rfl rfl ?_
              refine zn_iinc hB zd282_86 rfl rfl (by omega) (by omega) ?_
              refine zn_goto hB zd282_89 rfl ?_
              refine zn_ild hB zd282_5 rfl rfl ?_
              refine zn_ild hB zd282_7 rfl rfl ?_
              refine zn_cge hB zd282_8 rfl (fun h8 => ?_) (fun h8 => ?_)
              · refine zn_con hB zd282_92 rfl ?_
                exact hret _ _ _ _ _ zd282_93 (by constructor <;> decide) ⟨rfl, rfl, by first | exact Or.inl rfl | exact Or.inr rfl⟩
              · exact ih _ _ (by omega) (by omega) (by omega) (by omega) (by omega)
            · refine zn_con hB zd282_80 rfl ?_
              exact hret _ _ _ _ _ zd282_81 (by constructor <;> decide) ⟨rfl, rfl, by first | exact Or.inl rfl | exact Or.inr rfl⟩
        · refine zn_ild hB zd282_42 rfl rfl ?_
          refine zn_con hB zd282_43 rfl ?_
          refine zn_iadd hB zd282_44 (by omega) (by omega) ?_
          refine zn_ist hB zd282_45 rfl rfl rfl ?_
          refine zn_goto hB zd282_46 rfl ?_
          exact ih _ _ (by omega) (by omega) (by omega) (by omega) (by omega)
  refine zn_con hB zd282_0 rfl ?_
  refine zn_ist hB zd282_1 rfl rfl rfl ?_
  refine zn_con hB zd282_2 rfl ?_
  refine zn_ist hB zd282_3 rfl rfl rfl ?_
  refine zn_ild hB zd282_5 rfl rfl ?_
  refine zn_ild hB zd282_7 rfl rfl ?_
  refine zn_cge hB zd282_8 rfl (fun h8 => ?_) (fun h8 => ?_)
  · refine zn_con hB zd282_92 rfl ?_
    exact hret _ _ _ _ _ zd282_93 (by constructor <;> decide) ⟨rfl, rfl, by first | exact Or.inl rfl | exact Or.inr rfl⟩
  · exact key 1000 0 0 (by omega) (by omega) (by omega) (by omega) (by omega)
end ZPARTS
