/-! The reading of laws by the class: the rest of reading; what steps come to. -/
section ZLAWR4
variable {a len fl st cs t1 t2 t3 t4 n ans : Int} {text kinds vals ck af cf ce lett stk : Int → Int} {Fr : List Int} {Gr : List (Int → Int)}
theorem zd36_28 : decode zxm36.2.1 28 = .ok (.aload_n 0, 1) := by decide +kernel
theorem zd36_29 : decode zxm36.2.1 29 = .ok (.getfield 25, 3) := by decide +kernel
theorem zd36_32 : decode zxm36.2.1 32 = .ok (.invokevirtual 35, 3) := by decide +kernel
theorem zd36_35 : decode zxm36.2.1 35 = .ok (.aload_n 0, 1) := by decide +kernel
theorem zd36_36 : decode zxm36.2.1 36 = .ok (.invokevirtual 40, 3) := by decide +kernel
theorem zd36_39 : decode zxm36.2.1 39 = .ok (.iconst 0, 1) := by decide +kernel
theorem zd36_40 : decode zxm36.2.1 40 = .ok (.istore_n 3, 1) := by decide +kernel
theorem zd36_41 : decode zxm36.2.1 41 = .ok (.iload_n 3, 1) := by decide +kernel
theorem zd36_42 : decode zxm36.2.1 42 = .ok (.bipush 14, 2) := by decide +kernel
theorem zd36_44 : decode zxm36.2.1 44 = .ok (.if_icmp .ge 37, 3) := by decide +kernel
theorem zd36_47 : decode zxm36.2.1 47 = .ok (.aload_n 0, 1) := by decide +kernel
theorem zd36_48 : decode zxm36.2.1 48 = .ok (.getfield 18, 3) := by decide +kernel
theorem zd36_51 : decode zxm36.2.1 51 = .ok (.ifCond .ne 30, 3) := by decide +kernel
theorem zd36_54 : decode zxm36.2.1 54 = .ok (.aload_n 0, 1) := by decide +kernel
theorem zd36_55 : decode zxm36.2.1 55 = .ok (.getfield 15, 3) := by decide +kernel
theorem zd36_58 : decode zxm36.2.1 58 = .ok (.aload_n 0, 1) := by decide +kernel
theorem zd36_59 : decode zxm36.2.1 59 = .ok (.getfield 9, 3) := by decide +kernel
theorem zd36_62 : decode zxm36.2.1 62 = .ok (.if_icmp .ge 19, 3) := by decide +kernel
theorem zd36_65 : decode zxm36.2.1 65 = .ok (.aload_n 0, 1) := by decide +kernel
theorem zd36_66 : decode zxm36.2.1 66 = .ok (.bipush 59, 2) := by decide +kernel
theorem zd36_68 : decode zxm36.2.1 68 = .ok (.invokevirtual 43, 3) := by decide +kernel
theorem zd36_71 : decode zxm36.2.1 71 = .ok (.aload_n 0, 1) := by decide +kernel
theorem zd36_72 : decode zxm36.2.1 72 = .ok (.invokevirtual 40, 3) := by decide +kernel
theorem zd36_75 : decode zxm36.2.1 75 = .ok (.iinc 3 1, 3) := by decide +kernel
theorem zd36_78 : decode zxm36.2.1 78 = .ok (.goto (-37), 3) := by decide +kernel
theorem zd36_81 : decode zxm36.2.1 81 = .ok (.aload_n 0, 1) := by decide +kernel
theorem zd36_82 : decode zxm36.2.1 82 = .ok (.getfield 18, 3) := by decide +kernel
theorem zd36_85 : decode zxm36.2.1 85 = .ok (.ifCond .eq 10, 3) := by decide +kernel
theorem zd36_88 : decode zxm36.2.1 88 = .ok (.aload_n 0, 1) := by decide +kernel
theorem zd36_89 : decode zxm36.2.1 89 = .ok (.getfield 18, 3) := by decide +kernel
theorem zd36_92 : decode zxm36.2.1 92 = .ok (.goto 10, 3) := by decide +kernel
theorem zd36_95 : decode zxm36.2.1 95 = .ok (.aload_n 0, 1) := by decide +kernel
theorem zd36_96 : decode zxm36.2.1 96 = .ok (.getfield 25, 3) := by decide +kernel
theorem zd36_99 : decode zxm36.2.1 99 = .ok (.getfield 47, 3) := by decide +kernel
theorem zd36_102 : decode zxm36.2.1 102 = .ok (.ireturn, 1) := by decide +kernel
theorem zr_tail (hix : zr_ix) {good : Nat → List zNV → List zNV → List Int → List (Int → Int) → Prop} {x : zNV} (hB : zn_B z_cl z_FT z_KX z_TB z_MT zyL zxm36 zkR (29, 1740) good)
    (hret : ∀ pc L v a' fl' st' cs' t1' t2' t3' t4' kinds' vals' ck' af' cf' ce', decode zxm36.2.1 pc = .ok (.ireturn, 1) → zr_s a' len st' kinds' vals' → zr_T cs' t1' t2' t3' t4' → zr_C af' cf' ce' → good pc L [.inl v] (a' :: len :: fl' :: st' :: cs' :: t1' :: t2' :: t3' :: t4' :: Fr) (text :: kinds' :: vals' :: ck' :: af' :: cf' :: ce' :: Gr))
    (h0 : 0 ≤ len) (h1 : len ≤ 200) (hJ : zr_J kinds vals) (hC : zr_C af cf ce) : good 28 [.inr 0, .inl n, .inr 1, x] [] (0 :: len :: 0 :: st :: cs :: t1 :: t2 :: t3 :: t4 :: Fr) (text :: kinds :: vals :: ck :: af :: cf :: ce :: Gr) := by
  have key : ∀ (m : Nat) (k : Int) (a1 fl1 st1 cs1 u1 u2 u3 u4 : Int) (kinds1 vals1 ck1 af1 cf1 ce1 : Int → Int), zr_s a1 len st1 kinds1 vals1 → zr_T cs1 u1 u2 u3 u4 → zr_C af1 cf1 ce1 → 14 - k < m → k ≤ 14 → 0 ≤ k → good 41 [.inr 0, .inl n, .inr 1, .inl k] [] (a1 :: len :: fl1 :: st1 :: cs1 :: u1 :: u2 :: u3 :: u4 :: Fr) (text :: kinds1 :: vals1 :: ck1 :: af1 :: cf1 :: ce1 :: Gr) := by
    intro m
    induction m with
    | zero =>
      intro k a1 fl1 st1 cs1 u1 u2 u3 u4 kinds1 vals1 ck1 af1 cf1 ce1 e1 e2 e3 e4 e5 e6
      exfalso; omega
    | succ m ih =>
      intro k a1 fl1 st1 cs1 u1 u2 u3 u4 kinds1 vals1 ck1 af1 cf1 ce1 e1 e2 e3 e4 e5 e6
      obtain ⟨b1, b2, b3, b4⟩ := e1.1
      refine zn_ild hB zd36_41 rfl rfl ?_
      refine zn_con hB zd36_42 rfl ?_
      refine zn_cge hB zd36_44 rfl (fun h44 => ?_) (fun h44 => ?_)
      · refine zn_ald hB zd36_81 rfl rfl rfl ?_
        refine zn_getf hB zd36_82 rfl rfl (fun q82 r82 => ?_)
        refine zn_zeq hB zd36_85 rfl (fun h85 => ?_) (fun h85 => ?_)
        · refine zn_ald hB zd36_95 rfl rfl rfl ?_
          refine zn_getr hB zd36_96 rfl ?_
          refine zn_getf hB zd36_99 rfl rfl (fun q99 r99 => ?_)
          exact hret _ _ _ _ _ _ _ _ _ _ _ _ _ _ _ _ _ zd36_102 e1 e2 e3
        · refine zn_ald hB zd36_88 rfl rfl rfl ?_
          refine zn_getf hB zd36_89 rfl rfl (fun q89 r89 => ?_)
          refine zn_goto hB zd36_92 rfl ?_
          exact hret _ _ _ _ _ _ _ _ _ _ _ _ _ _ _ _ _ zd36_102 e1 e2 e3
      · refine zn_ald hB zd36_47 rfl rfl rfl ?_
        refine zn_getf hB zd36_48 rfl rfl (fun q48 r48 => ?_)
        refine zn_zne hB zd36_51 rfl (fun h51 => ?_) (fun h51 => ?_)
        · refine zn_ald hB zd36_81 rfl rfl rfl ?_
          refine zn_getf hB zd36_82 rfl rfl (fun q82 r82 => ?_)
          refine zn_zeq hB zd36_85 rfl (fun h85 => ?_) (fun h85 => ?_)
          · refine zn_ald hB zd36_95 rfl rfl rfl ?_
            refine zn_getr hB zd36_96 rfl ?_
            refine zn_getf hB zd36_99 rfl rfl (fun q99 r99 => ?_)
            exact hret _ _ _ _ _ _ _ _ _ _ _ _ _ _ _ _ _ zd36_102 e1 e2 e3
          · refine zn_ald hB zd36_88 rfl rfl rfl ?_
            refine zn_getf hB zd36_89 rfl rfl (fun q89 r89 => ?_)
            refine zn_goto hB zd36_92 rfl ?_
            exact hret _ _ _ _ _ _ _ _ _ _ _ _ _ _ _ _ _ zd36_102 e1 e2 e3
        · refine zn_ald hB zd36_54 rfl rfl rfl ?_
          refine zn_getf hB zd36_55 rfl rfl (fun q55 r55 => ?_)
          refine zn_ald hB zd36_58 rfl rfl rfl ?_
          refine zn_getf hB zd36_59 rfl rfl (fun q59 r59 => ?_)
          refine zn_cge hB zd36_62 rfl (fun h62 => ?_) (fun h62 => ?_)
          · refine zn_ald hB zd36_81 rfl rfl rfl ?_
            refine zn_getf hB zd36_82 rfl rfl (fun q82 r82 => ?_)
            refine zn_zeq hB zd36_85 rfl (fun h85 => ?_) (fun h85 => ?_)
            · refine zn_ald hB zd36_95 rfl rfl rfl ?_
              refine zn_getr hB zd36_96 rfl ?_
              refine zn_getf hB zd36_99 rfl rfl (fun q99 r99 => ?_)
              exact hret _ _ _ _ _ _ _ _ _ _ _ _ _ _ _ _ _ zd36_102 e1 e2 e3
            · refine zn_ald hB zd36_88 rfl rfl rfl ?_
              refine zn_getf hB zd36_89 rfl rfl (fun q89 r89 => ?_)
              refine zn_goto hB zd36_92 rfl ?_
              exact hret _ _ _ _ _ _ _ _ _ _ _ _ _ _ _ _ _ zd36_102 e1 e2 e3
          · refine zn_ald hB zd36_65 rfl rfl rfl ?_
            refine zn_con hB zd36_66 rfl ?_
            refine zn_iv1 hB (zh46 (a := a1) (len := len)) zd36_68 zxt46 (zr_hc rfl rfl rfl (show 2 + 1 ≤ 29 by omega) (show 8 + (2 + 11) + 60 * (2) ≤ 60 * (29) by omega)) ⟨rfl, rfl, rfl, by omega, by omega, by omega, by omega⟩ (fun r68 F68 G68 hq68 => ?_)
            obtain ⟨rfl, a3, fl3, rfl, rfl, k1, k2⟩ := hq68
            refine zn_ald hB zd36_71 rfl rfl rfl ?_
            refine zn_iv0 hB (zh39 hix (a := a3) (len := len)) zd36_72 zxt39 (zr_hc rfl rfl rfl (show 28 + 1 ≤ 29 by omega) (show 8 + (5 + 11) + 60 * (28) ≤ 60 * (29) by omega)) ⟨rfl, rfl, rfl, zr_s_on e1 k1 k2, e2, e3⟩ (fun r72 F72 G72 hq72 => ?_)
            obtain ⟨rfl, a', fl', st', cs', t1', t2', t3', t4', kinds', vals', ck', af', cf', ce', rfl, rfl, hs9, hT9, hC9⟩ := hq72
            refine zn_iinc hB zd36_75 rfl rfl (by omega) (by omega) ?_
            refine zn_goto hB zd36_78 rfl ?_
            exact ih _ _ _ _ _ _ _ _ _ _ _ _ _ _ _ hs9 hT9 hC9 (by omega) (by omega) (by omega)
  refine zn_ald hB zd36_28 rfl rfl rfl ?_
  refine zn_getr hB zd36_29 rfl ?_
  refine zn_iv0 hB zh38 zd36_32 zxt38 (zr_hc rfl rfl rfl (show 0 + 1 ≤ 29 by omega) (show 8 + (1 + 11) + 60 * (0) ≤ 60 * (29) by omega)) ⟨rfl, rfl⟩ (fun r32 F32 G32 hq32 => ?_)
  obtain ⟨rfl, rfl, rfl⟩ := hq32
  refine zn_ald hB zd36_35 rfl rfl rfl ?_
  refine zn_iv0 hB (zh39 hix (a := 0) (len := len) (st := 0) (kinds := kinds) (vals := vals)) zd36_36 zxt39 (zr_hc rfl rfl rfl (show 28 + 1 ≤ 29 by omega) (show 8 + (5 + 11) + 60 * (28) ≤ 60 * (29) by omega)) ⟨rfl, rfl, rfl, ⟨⟨Int.le_refl _, Int.le_refl _, h0, h1⟩, hJ⟩, ⟨by omega, by omega, by omega, by omega, by omega⟩, hC⟩ (fun r36 F36 G36 hq36 => ?_)
  obtain ⟨rfl, a', fl', st', cs', t1', t2', t3', t4', kinds', vals', ck', af', cf', ce', rfl, rfl, hs9, hT9, hC9⟩ := hq36
  refine zn_con hB zd36_39 rfl ?_
  refine zn_ist hB zd36_40 rfl rfl rfl ?_
  exact key 15 0 _ _ _ _ _ _ _ _ _ _ _ _ _ _ hs9 hT9 hC9 (by omega) (by omega) (by omega)
abbrev zyV : zNL := (5, [(0, 4)], [(0, 4, 14, 0)], [(0, 4, 0, 1), (0, 4, 1, 2), (0, 4, 12, 3), (0, 4, 13, 4)], [(1, 0, 200, 0), (2, 0, 200, 1), (3, 0, 13, 2), (4, 0, 40, 3)])
theorem zd55_0 : decode zxm55.2.1 0 = .ok (.iload_n 0, 1) := by decide +kernel
theorem zd55_1 : decode zxm55.2.1 1 = .ok (.iload_n 1, 1) := by decide +kernel
theorem zd55_2 : decode zxm55.2.1 2 = .ok (.if_icmp .lt 7, 3) := by decide +kernel
theorem zd55_5 : decode zxm55.2.1 5 = .ok (.iload_n 0, 1) := by decide +kernel
theorem zd55_6 : decode zxm55.2.1 6 = .ok (.goto 4, 3) := by decide +kernel
theorem zd55_9 : decode zxm55.2.1 9 = .ok (.iload_n 1, 1) := by decide +kernel
theorem zd55_10 : decode zxm55.2.1 10 = .ok (.ireturn, 1) := by decide +kernel
theorem zh55 {x z : Int} : zn_OK z_TB z_cl z_KX zyV zxm55 (0, 0) (fun va F G => va = [.inl x, .inl z]) (fun va F G r F' G' => F' = F ∧ G' = G ∧ ∃ v, r = some v ∧ x ≤ v ∧ z ≤ v ∧ (v = x ∨ v = z)) := zn_meth (K := (z_KF16, z_KC16, z_KL16, z_KT16, [], [], [], none)) (FT := z_FT) (MT := z_MT) (n := 2) zxp55 (z_ks16 _ (fun _ h => List.mem_cons_of_mem _ h) _ _ _ _ (fun j r h _ => by cases h)) (fun _ _ => zs_KX_p) (by decide +kernel) (fun va F G h => by obtain ⟨rfl, _⟩ := h; rfl) rfl fun good va F G hB hret hvret hP => by
  subst hP
  refine zn_ild hB zd55_0 rfl rfl ?_
  refine zn_ild hB zd55_1 rfl rfl ?_
  refine zn_clt hB zd55_2 rfl (fun h2 => ?_) (fun h2 => ?_)
  · refine zn_ild hB zd55_9 rfl rfl ?_
    exact hret _ _ _ _ _ zd55_10 trivial ⟨rfl, rfl, _, rfl, by omega, by omega, by omega⟩
  · refine zn_ild hB zd55_5 rfl rfl ?_
    refine zn_goto hB zd55_6 rfl ?_
    exact hret _ _ _ _ _ zd55_10 trivial ⟨rfl, rfl, _, rfl, by omega, by omega, by omega⟩
theorem zd94_0 : decode zxm94.2.1 0 = .ok (.iconst (-1), 1) := by decide +kernel
theorem zd94_1 : decode zxm94.2.1 1 = .ok (.istore_n 3, 1) := by decide +kernel
theorem zd94_2 : decode zxm94.2.1 2 = .ok (.iload_n 1, 1) := by decide +kernel
theorem zd94_3 : decode zxm94.2.1 3 = .ok (.istore 4, 2) := by decide +kernel
theorem zd94_5 : decode zxm94.2.1 5 = .ok (.iload 4, 2) := by decide +kernel
theorem zd94_7 : decode zxm94.2.1 7 = .ok (.iload_n 2, 1) := by decide +kernel
theorem zd94_8 : decode zxm94.2.1 8 = .ok (.if_icmp .ge 384, 3) := by decide +kernel
theorem zd94_11 : decode zxm94.2.1 11 = .ok (.aload_n 0, 1) := by decide +kernel
theorem zd94_12 : decode zxm94.2.1 12 = .ok (.getfield 9, 3) := by decide +kernel
theorem zd94_15 : decode zxm94.2.1 15 = .ok (.iload 4, 2) := by decide +kernel
theorem zd94_17 : decode zxm94.2.1 17 = .ok (.iaload, 1) := by decide +kernel
theorem zd94_18 : decode zxm94.2.1 18 = .ok (.istore 5, 2) := by decide +kernel
theorem zd94_20 : decode zxm94.2.1 20 = .ok (.iload 5, 2) := by decide +kernel
theorem zd94_22 : decode zxm94.2.1 22 = .ok (.iconst 1, 1) := by decide +kernel
theorem zd94_23 : decode zxm94.2.1 23 = .ok (.if_icmp .gt 50, 3) := by decide +kernel
theorem zd94_26 : decode zxm94.2.1 26 = .ok (.iinc 3 1, 3) := by decide +kernel
theorem zd94_29 : decode zxm94.2.1 29 = .ok (.iload_n 3, 1) := by decide +kernel
theorem zd94_30 : decode zxm94.2.1 30 = .ok (.bipush 40, 2) := by decide +kernel
theorem zd94_32 : decode zxm94.2.1 32 = .ok (.if_icmp .lt 5, 3) := by decide +kernel
theorem zd94_35 : decode zxm94.2.1 35 = .ok (.iconst 0, 1) := by decide +kernel
theorem zd94_36 : decode zxm94.2.1 36 = .ok (.ireturn, 1) := by decide +kernel
theorem zd94_37 : decode zxm94.2.1 37 = .ok (.aload_n 0, 1) := by decide +kernel
theorem zd94_38 : decode zxm94.2.1 38 = .ok (.getfield 59, 3) := by decide +kernel
theorem zd94_41 : decode zxm94.2.1 41 = .ok (.iload_n 3, 1) := by decide +kernel
theorem zd94_42 : decode zxm94.2.1 42 = .ok (.iload 5, 2) := by decide +kernel
theorem zd94_44 : decode zxm94.2.1 44 = .ok (.ifCond .ne 13, 3) := by decide +kernel
theorem zd94_47 : decode zxm94.2.1 47 = .ok (.aload_n 0, 1) := by decide +kernel
theorem zd94_48 : decode zxm94.2.1 48 = .ok (.getfield 13, 3) := by decide +kernel
theorem zd94_51 : decode zxm94.2.1 51 = .ok (.iload 4, 2) := by decide +kernel
theorem zd94_53 : decode zxm94.2.1 53 = .ok (.iaload, 1) := by decide +kernel
theorem zd94_54 : decode zxm94.2.1 54 = .ok (.goto 15, 3) := by decide +kernel
theorem zd94_57 : decode zxm94.2.1 57 = .ok (.aload_n 0, 1) := by decide +kernel
theorem zd94_58 : decode zxm94.2.1 58 = .ok (.getfield 56, 3) := by decide +kernel
theorem zd94_61 : decode zxm94.2.1 61 = .ok (.aload_n 0, 1) := by decide +kernel
theorem zd94_62 : decode zxm94.2.1 62 = .ok (.getfield 13, 3) := by decide +kernel
theorem zd94_65 : decode zxm94.2.1 65 = .ok (.iload 4, 2) := by decide +kernel
theorem zd94_67 : decode zxm94.2.1 67 = .ok (.iaload, 1) := by decide +kernel
theorem zd94_68 : decode zxm94.2.1 68 = .ok (.iaload, 1) := by decide +kernel
theorem zd94_69 : decode zxm94.2.1 69 = .ok (.iastore, 1) := by decide +kernel
theorem zd94_70 : decode zxm94.2.1 70 = .ok (.goto 316, 3) := by decide +kernel
theorem zd94_73 : decode zxm94.2.1 73 = .ok (.iload_n 3, 1) := by decide +kernel
theorem zd94_74 : decode zxm94.2.1 74 = .ok (.iload 5, 2) := by decide +kernel
theorem zd94_76 : decode zxm94.2.1 76 = .ok (.iconst 5, 1) := by decide +kernel
theorem zd94_77 : decode zxm94.2.1 77 = .ok (.if_icmp .ge 7, 3) := by decide +kernel
theorem zd94_80 : decode zxm94.2.1 80 = .ok (.iconst 0, 1) := by decide +kernel
theorem zd94_81 : decode zxm94.2.1 81 = .ok (.goto 4, 3) := by decide +kernel
theorem zd94_84 : decode zxm94.2.1 84 = .ok (.iconst 1, 1) := by decide +kernel
theorem zd94_85 : decode zxm94.2.1 85 = .ok (.if_icmp .ge 5, 3) := by decide +kernel
theorem zd94_88 : decode zxm94.2.1 88 = .ok (.iconst 0, 1) := by decide +kernel
theorem zd94_89 : decode zxm94.2.1 89 = .ok (.ireturn, 1) := by decide +kernel
theorem zd94_90 : decode zxm94.2.1 90 = .ok (.aload_n 0, 1) := by decide +kernel
theorem zd94_91 : decode zxm94.2.1 91 = .ok (.getfield 59, 3) := by decide +kernel
theorem zd94_94 : decode zxm94.2.1 94 = .ok (.iload_n 3, 1) := by decide +kernel
theorem zd94_95 : decode zxm94.2.1 95 = .ok (.iaload, 1) := by decide +kernel
theorem zd94_96 : decode zxm94.2.1 96 = .ok (.istore 6, 2) := by decide +kernel
theorem zd94_98 : decode zxm94.2.1 98 = .ok (.iload 5, 2) := by decide +kernel
theorem zd94_100 : decode zxm94.2.1 100 = .ok (.iconst 2, 1) := by decide +kernel
theorem zd94_101 : decode zxm94.2.1 101 = .ok (.if_icmp .ne 22, 3) := by decide +kernel
theorem zd94_104 : decode zxm94.2.1 104 = .ok (.aload_n 0, 1) := by decide +kernel
theorem zd94_105 : decode zxm94.2.1 105 = .ok (.getfield 59, 3) := by decide +kernel
theorem zd94_108 : decode zxm94.2.1 108 = .ok (.iload_n 3, 1) := by decide +kernel
theorem zd94_109 : decode zxm94.2.1 109 = .ok (.iload 6, 2) := by decide +kernel
theorem zd94_111 : decode zxm94.2.1 111 = .ok (.ifCond .ne 7, 3) := by decide +kernel
theorem zd94_114 : decode zxm94.2.1 114 = .ok (.iconst 1, 1) := by decide +kernel
theorem zd94_115 : decode zxm94.2.1 115 = .ok (.goto 4, 3) := by decide +kernel
theorem zd94_118 : decode zxm94.2.1 118 = .ok (.iconst 0, 1) := by decide +kernel
theorem zd94_119 : decode zxm94.2.1 119 = .ok (.iastore, 1) := by decide +kernel
theorem zd94_120 : decode zxm94.2.1 120 = .ok (.goto 266, 3) := by decide +kernel
theorem zd94_123 : decode zxm94.2.1 123 = .ok (.iload 5, 2) := by decide +kernel
theorem zd94_125 : decode zxm94.2.1 125 = .ok (.iconst 5, 1) := by decide +kernel
theorem zd94_126 : decode zxm94.2.1 126 = .ok (.if_icmp .ge 46, 3) := by decide +kernel
theorem zd94_129 : decode zxm94.2.1 129 = .ok (.iload 6, 2) := by decide +kernel
theorem zd94_131 : decode zxm94.2.1 131 = .ok (.ifCond .eq 7, 3) := by decide +kernel
theorem zd94_134 : decode zxm94.2.1 134 = .ok (.iconst 1, 1) := by decide +kernel
theorem zd94_135 : decode zxm94.2.1 135 = .ok (.goto 4, 3) := by decide +kernel
theorem zd94_138 : decode zxm94.2.1 138 = .ok (.iconst 0, 1) := by decide +kernel
theorem zd94_139 : decode zxm94.2.1 139 = .ok (.iload 5, 2) := by decide +kernel
theorem zd94_141 : decode zxm94.2.1 141 = .ok (.iconst 3, 1) := by decide +kernel
theorem zd94_142 : decode zxm94.2.1 142 = .ok (.if_icmp .ne 7, 3) := by decide +kernel
theorem zd94_145 : decode zxm94.2.1 145 = .ok (.iconst 1, 1) := by decide +kernel
theorem zd94_146 : decode zxm94.2.1 146 = .ok (.goto 4, 3) := by decide +kernel
theorem zd94_149 : decode zxm94.2.1 149 = .ok (.iconst 0, 1) := by decide +kernel
theorem zd94_150 : decode zxm94.2.1 150 = .ok (.if_icmp .ne 22, 3) := by decide +kernel
theorem zd94_153 : decode zxm94.2.1 153 = .ok (.iload 4, 2) := by decide +kernel
theorem zd94_155 : decode zxm94.2.1 155 = .ok (.aload_n 0, 1) := by decide +kernel
theorem zd94_156 : decode zxm94.2.1 156 = .ok (.getfield 13, 3) := by decide +kernel
theorem zd94_159 : decode zxm94.2.1 159 = .ok (.iload 4, 2) := by decide +kernel
theorem zd94_161 : decode zxm94.2.1 161 = .ok (.iaload, 1) := by decide +kernel
theorem zd94_162 : decode zxm94.2.1 162 = .ok (.iconst 1, 1) := by decide +kernel
theorem zd94_163 : decode zxm94.2.1 163 = .ok (.isub, 1) := by decide +kernel
theorem zd94_164 : decode zxm94.2.1 164 = .ok (.invokestatic 102, 3) := by decide +kernel
theorem zd94_167 : decode zxm94.2.1 167 = .ok (.istore 4, 2) := by decide +kernel
theorem zd94_169 : decode zxm94.2.1 169 = .ok (.goto 217, 3) := by decide +kernel
theorem zd94_172 : decode zxm94.2.1 172 = .ok (.iinc 3 (-1), 3) := by decide +kernel
theorem zd94_175 : decode zxm94.2.1 175 = .ok (.iload 5, 2) := by decide +kernel
theorem zd94_177 : decode zxm94.2.1 177 = .ok (.iconst 5, 1) := by decide +kernel
theorem zd94_178 : decode zxm94.2.1 178 = .ok (.if_icmp .ge 6, 3) := by decide +kernel
theorem zd94_181 : decode zxm94.2.1 181 = .ok (.goto 205, 3) := by decide +kernel
theorem zd94_184 : decode zxm94.2.1 184 = .ok (.iload 6, 2) := by decide +kernel
theorem zd94_186 : decode zxm94.2.1 186 = .ok (.ifCond .ne 19, 3) := by decide +kernel
theorem zd94_189 : decode zxm94.2.1 189 = .ok (.iload 5, 2) := by decide +kernel
theorem zd94_191 : decode zxm94.2.1 191 = .ok (.bipush 8, 2) := by decide +kernel
theorem zd94_193 : decode zxm94.2.1 193 = .ok (.if_icmp .eq 10, 3) := by decide +kernel
theorem zd94_196 : decode zxm94.2.1 196 = .ok (.iload 5, 2) := by decide +kernel
theorem zd94_198 : decode zxm94.2.1 198 = .ok (.bipush 9, 2) := by decide +kernel
theorem zd94_200 : decode zxm94.2.1 200 = .ok (.if_icmp .ne 5, 3) := by decide +kernel
theorem zd94_203 : decode zxm94.2.1 203 = .ok (.iconst 0, 1) := by decide +kernel
theorem zd94_204 : decode zxm94.2.1 204 = .ok (.ireturn, 1) := by decide +kernel
theorem zd94_205 : decode zxm94.2.1 205 = .ok (.aload_n 0, 1) := by decide +kernel
theorem zd94_206 : decode zxm94.2.1 206 = .ok (.getfield 59, 3) := by decide +kernel
theorem zd94_209 : decode zxm94.2.1 209 = .ok (.iload_n 3, 1) := by decide +kernel
theorem zd94_210 : decode zxm94.2.1 210 = .ok (.iaload, 1) := by decide +kernel
theorem zd94_211 : decode zxm94.2.1 211 = .ok (.istore 7, 2) := by decide +kernel
theorem zd94_213 : decode zxm94.2.1 213 = .ok (.iload 5, 2) := by decide +kernel
theorem zd94_215 : decode zxm94.2.1 215 = .ok (.tableswitch 153 5 11 #[41, 55, 69, 83, 97, 111, 132], 41) := by decide +kernel
theorem zd94_256 : decode zxm94.2.1 256 = .ok (.aload_n 0, 1) := by decide +kernel
theorem zd94_257 : decode zxm94.2.1 257 = .ok (.getfield 59, 3) := by decide +kernel
theorem zd94_260 : decode zxm94.2.1 260 = .ok (.iload_n 3, 1) := by decide +kernel
theorem zd94_261 : decode zxm94.2.1 261 = .ok (.iload 7, 2) := by decide +kernel
theorem zd94_263 : decode zxm94.2.1 263 = .ok (.iload 6, 2) := by decide +kernel
theorem zd94_265 : decode zxm94.2.1 265 = .ok (.iadd, 1) := by decide +kernel
theorem zd94_266 : decode zxm94.2.1 266 = .ok (.iastore, 1) := by decide +kernel
theorem zd94_267 : decode zxm94.2.1 267 = .ok (.goto 119, 3) := by decide +kernel
theorem zd94_270 : decode zxm94.2.1 270 = .ok (.aload_n 0, 1) := by decide +kernel
theorem zd94_271 : decode zxm94.2.1 271 = .ok (.getfield 59, 3) := by decide +kernel
theorem zd94_274 : decode zxm94.2.1 274 = .ok (.iload_n 3, 1) := by decide +kernel
theorem zd94_275 : decode zxm94.2.1 275 = .ok (.iload 7, 2) := by decide +kernel
theorem zd94_277 : decode zxm94.2.1 277 = .ok (.iload 6, 2) := by decide +kernel
theorem zd94_279 : decode zxm94.2.1 279 = .ok (.isub, 1) := by decide +kernel
theorem zd94_280 : decode zxm94.2.1 280 = .ok (.iastore, 1) := by decide +kernel
theorem zd94_281 : decode zxm94.2.1 281 = .ok (.goto 105, 3) := by decide +kernel
theorem zd94_284 : decode zxm94.2.1 284 = .ok (.aload_n 0, 1) := by decide +kernel
theorem zd94_285 : decode zxm94.2.1 285 = .ok (.getfield 59, 3) := by decide +kernel
theorem zd94_288 : decode zxm94.2.1 288 = .ok (.iload_n 3, 1) := by decide +kernel
theorem zd94_289 : decode zxm94.2.1 289 = .ok (.iload 7, 2) := by decide +kernel
theorem zd94_291 : decode zxm94.2.1 291 = .ok (.iload 6, 2) := by decide +kernel
theorem zd94_293 : decode zxm94.2.1 293 = .ok (.imul, 1) := by decide +kernel
theorem zd94_294 : decode zxm94.2.1 294 = .ok (.iastore, 1) := by decide +kernel
theorem zd94_295 : decode zxm94.2.1 295 = .ok (.goto 91, 3) := by decide +kernel
theorem zd94_298 : decode zxm94.2.1 298 = .ok (.aload_n 0, 1) := by decide +kernel
theorem zd94_299 : decode zxm94.2.1 299 = .ok (.getfield 59, 3) := by decide +kernel
theorem zd94_302 : decode zxm94.2.1 302 = .ok (.iload_n 3, 1) := by decide +kernel
theorem zd94_303 : decode zxm94.2.1 303 = .ok (.iload 7, 2) := by decide +kernel
theorem zd94_305 : decode zxm94.2.1 305 = .ok (.iload 6, 2) := by decide +kernel
theorem zd94_307 : decode zxm94.2.1 307 = .ok (.idiv, 1) := by decide +kernel
theorem zd94_308 : decode zxm94.2.1 308 = .ok (.iastore, 1) := by decide +kernel
theorem zd94_309 : decode zxm94.2.1 309 = .ok (.goto 77, 3) := by decide +kernel
theorem zd94_312 : decode zxm94.2.1 312 = .ok (.aload_n 0, 1) := by decide +kernel
theorem zd94_313 : decode zxm94.2.1 313 = .ok (.getfield 59, 3) := by decide +kernel
theorem zd94_316 : decode zxm94.2.1 316 = .ok (.iload_n 3, 1) := by decide +kernel
theorem zd94_317 : decode zxm94.2.1 317 = .ok (.iload 7, 2) := by decide +kernel
theorem zd94_319 : decode zxm94.2.1 319 = .ok (.iload 6, 2) := by decide +kernel
theorem zd94_321 : decode zxm94.2.1 321 = .ok (.irem, 1) := by decide +kernel
theorem zd94_322 : decode zxm94.2.1 322 = .ok (.iastore, 1) := by decide +kernel
theorem zd94_323 : decode zxm94.2.1 323 = .ok (.goto 63, 3) := by decide +kernel
theorem zd94_326 : decode zxm94.2.1 326 = .ok (.aload_n 0, 1) := by decide +kernel
theorem zd94_327 : decode zxm94.2.1 327 = .ok (.getfield 59, 3) := by decide +kernel
theorem zd94_330 : decode zxm94.2.1 330 = .ok (.iload_n 3, 1) := by decide +kernel
theorem zd94_331 : decode zxm94.2.1 331 = .ok (.iload 7, 2) := by decide +kernel
theorem zd94_333 : decode zxm94.2.1 333 = .ok (.iload 6, 2) := by decide +kernel
theorem zd94_335 : decode zxm94.2.1 335 = .ok (.if_icmp .ge 7, 3) := by decide +kernel
theorem zd94_338 : decode zxm94.2.1 338 = .ok (.iconst 1, 1) := by decide +kernel
theorem zd94_339 : decode zxm94.2.1 339 = .ok (.goto 4, 3) := by decide +kernel
theorem zd94_342 : decode zxm94.2.1 342 = .ok (.iconst 0, 1) := by decide +kernel
theorem zd94_343 : decode zxm94.2.1 343 = .ok (.iastore, 1) := by decide +kernel
theorem zd94_344 : decode zxm94.2.1 344 = .ok (.goto 42, 3) := by decide +kernel
theorem zd94_347 : decode zxm94.2.1 347 = .ok (.aload_n 0, 1) := by decide +kernel
theorem zd94_348 : decode zxm94.2.1 348 = .ok (.getfield 59, 3) := by decide +kernel
theorem zd94_351 : decode zxm94.2.1 351 = .ok (.iload_n 3, 1) := by decide +kernel
theorem zd94_352 : decode zxm94.2.1 352 = .ok (.iload 7, 2) := by decide +kernel
theorem zd94_354 : decode zxm94.2.1 354 = .ok (.iload 6, 2) := by decide +kernel
theorem zd94_356 : decode zxm94.2.1 356 = .ok (.if_icmp .le 7, 3) := by decide +kernel
theorem zd94_359 : decode zxm94.2.1 359 = .ok (.iconst 1, 1) := by decide +kernel
theorem zd94_360 : decode zxm94.2.1 360 = .ok (.goto 4, 3) := by decide +kernel
theorem zd94_363 : decode zxm94.2.1 363 = .ok (.iconst 0, 1) := by decide +kernel
theorem zd94_364 : decode zxm94.2.1 364 = .ok (.iastore, 1) := by decide +kernel
theorem zd94_365 : decode zxm94.2.1 365 = .ok (.goto 21, 3) := by decide +kernel
theorem zd94_368 : decode zxm94.2.1 368 = .ok (.aload_n 0, 1) := by decide +kernel
theorem zd94_369 : decode zxm94.2.1 369 = .ok (.getfield 59, 3) := by decide +kernel
theorem zd94_372 : decode zxm94.2.1 372 = .ok (.iload_n 3, 1) := by decide +kernel
theorem zd94_373 : decode zxm94.2.1 373 = .ok (.iload 7, 2) := by decide +kernel
theorem zd94_375 : decode zxm94.2.1 375 = .ok (.iload 6, 2) := by decide +kernel
theorem zd94_377 : decode zxm94.2.1 377 = .ok (.if_icmp .ne 7, 3) := by decide +kernel
theorem zd94_380 : decode zxm94.2.1 380 = .ok (.iconst 1, 1) := by decide +kernel
theorem zd94_381 : decode zxm94.2.1 381 = .ok (.goto 4, 3) := by decide +kernel
theorem zd94_384 : decode zxm94.2.1 384 = .ok (.iconst 0, 1) := by decide +kernel
theorem zd94_385 : decode zxm94.2.1 385 = .ok (.iastore, 1) := by decide +kernel
theorem zd94_386 : decode zxm94.2.1 386 = .ok (.iinc 4 1, 3) := by decide +kernel
theorem zd94_389 : decode zxm94.2.1 389 = .ok (.goto (-384), 3) := by decide +kernel
theorem zd94_392 : decode zxm94.2.1 392 = .ok (.aload_n 0, 1) := by decide +kernel
theorem zd94_393 : decode zxm94.2.1 393 = .ok (.iload_n 3, 1) := by decide +kernel
theorem zd94_394 : decode zxm94.2.1 394 = .ok (.ifCond .ge 7, 3) := by decide +kernel
theorem zd94_397 : decode zxm94.2.1 397 = .ok (.iconst 0, 1) := by decide +kernel
theorem zd94_398 : decode zxm94.2.1 398 = .ok (.goto 9, 3) := by decide +kernel
theorem zd94_401 : decode zxm94.2.1 401 = .ok (.aload_n 0, 1) := by decide +kernel
theorem zd94_402 : decode zxm94.2.1 402 = .ok (.getfield 59, 3) := by decide +kernel
theorem zd94_405 : decode zxm94.2.1 405 = .ok (.iload_n 3, 1) := by decide +kernel
theorem zd94_406 : decode zxm94.2.1 406 = .ok (.iaload, 1) := by decide +kernel
theorem zd94_407 : decode zxm94.2.1 407 = .ok (.putfield 62, 3) := by decide +kernel
theorem zd94_410 : decode zxm94.2.1 410 = .ok (.iconst 1, 1) := by decide +kernel
theorem zd94_411 : decode zxm94.2.1 411 = .ok (.ireturn, 1) := by decide +kernel
theorem zh94 {fr to : Int} : zn_OK z_TB z_cl z_KX zyV zxm94 (1, 60) (fun va F G => va = [.inr 0, .inl fr, .inl to] ∧ F = ans :: Fr ∧ G = kinds :: vals :: lett :: stk :: Gr ∧ zr_J kinds vals ∧ 0 ≤ fr ∧ fr ≤ 200 ∧ to ≤ 200) (fun va F G r F' G' => ∃ v ans' stk', r = some v ∧ F' = ans' :: Fr ∧ G' = kinds :: vals :: lett :: stk' :: Gr) := zn_meth (K := zkW) (FT := z_FT) (MT := z_MT) (n := 3) zxp94 (z_ks2 _ (fun _ h => List.mem_cons_of_mem _ h) _ _ _ _ (fun j r h _ => by cases h)) (fun _ _ => zs_KX_p) (by decide +kernel) (fun va F G h => by obtain ⟨rfl, _⟩ := h; rfl) rfl fun good va F G hB hret hvret hP => by
  obtain ⟨rfl, rfl, rfl, hJ, h0, h1, h2⟩ := hP
  have key : ∀ (m : Nat) (top stp : Int) (x5 x6 x7 : zNV) (stk : Int → Int), to - stp < m → -1 ≤ top → top ≤ 39 → 0 ≤ stp → stp ≤ 100000 → good 5 [.inr 0, .inl fr, .inl to, .inl top, .inl stp, x5, x6, x7] [] (ans :: Fr) (kinds :: vals :: lett :: stk :: Gr) := by
    intro m
    induction m with
    | zero =>
      intro top stp x5 x6 x7 stk e1 e2 e3 e4 e5
      refine zn_ild hB zd94_5 rfl rfl ?_
      refine zn_ild hB zd94_7 rfl rfl ?_
      refine zn_cge hB zd94_8 rfl (fun h8 => ?_) (fun h8 => ?_)
      · refine zn_ald hB zd94_392 rfl rfl rfl ?_
        refine zn_ild hB zd94_393 rfl rfl ?_
        refine zn_zge hB zd94_394 rfl (fun h394 => ?_) (fun h394 => ?_)
        · refine zn_ald hB zd94_401 rfl rfl rfl ?_
          refine zn_getr hB zd94_402 rfl ?_
          refine zn_ild hB zd94_405 rfl rfl ?_
          refine zn_iald hB zd94_406 rfl rfl (by omega) (by omega) (fun q406 r406 => ?_)
          refine zn_putf hB zd94_407 rfl rfl (fun h => by cases h) rfl ?_
          refine zn_con hB zd94_410 rfl ?_
          exact hret _ _ _ _ _ zd94_411 (by constructor <;> decide) ⟨_, _, _, rfl, rfl, rfl⟩
        · refine zn_con hB zd94_397 rfl ?_
          refine zn_goto hB zd94_398 rfl ?_
          refine zn_putf hB zd94_407 rfl rfl (fun h => by cases h) rfl ?_
          refine zn_con hB zd94_410 rfl ?_
          exact hret _ _ _ _ _ zd94_411 (by constructor <;> decide) ⟨_, _, _, rfl, rfl, rfl⟩
      · exfalso; omega
    | succ m ih =>
      intro top stp x5 x6 x7 stk e1 e2 e3 e4 e5
      have sw : ∀ (b : Int) (x7 : zNV) (stk : Int → Int), stp < to → 1 ≤ top → 5 ≤ kinds stp → (b ≠ 0 ∨ (kinds stp ≠ 8 ∧ kinds stp ≠ 9)) → good 205 [.inr 0, .inl fr, .inl to, .inl (top - 1), .inl stp, .inl (kinds stp), .inl b, x7] [] (ans :: Fr) (kinds :: vals :: lett :: stk :: Gr) := by
        intro b x7 stk f1 f2 f3 f4
        obtain ⟨q1, q2, q3, q4, q5⟩ := hJ stp e4 (by omega)
        refine zn_ald hB zd94_205 rfl rfl rfl ?_
        refine zn_getr hB zd94_206 rfl ?_
        refine zn_ild hB zd94_209 rfl rfl ?_
        refine zn_iald hB zd94_210 rfl rfl (by omega) (by omega) (fun q210 r210 => ?_)
        refine zn_ist hB zd94_211 rfl rfl rfl ?_
        refine zn_ild hB zd94_213 rfl rfl ?_
        refine zn_tsw hB zd94_215 rfl ?_
        refine ⟨fun s215 => ⟨_, rfl, ?_⟩, fun s215 => ?_⟩
        · refine zn_ald hB zd94_256 rfl rfl rfl ?_
          refine zn_getr hB zd94_257 rfl ?_
          refine zn_ild hB zd94_260 rfl rfl ?_
          refine zn_ild hB zd94_261 rfl rfl ?_
          refine zn_ild hB zd94_263 rfl rfl ?_
          refine zn_any hB zd94_265 rfl (fun v265 q265 r265 => ?_)
          refine zn_iast hB zd94_266 rfl rfl (by omega) (by omega) ?_
          refine zn_goto hB zd94_267 rfl ?_
          refine zn_iinc hB zd94_386 rfl rfl (by omega) (by omega) ?_
          refine zn_goto hB zd94_389 rfl ?_
          exact ih _ _ _ _ _ _ (by omega) (by omega) (by omega) (by omega) (by omega)
        refine ⟨fun s215 => ⟨_, rfl, ?_⟩, fun s215 => ?_⟩
        · refine zn_ald hB zd94_270 rfl rfl rfl ?_
          refine zn_getr hB zd94_271 rfl ?_
          refine zn_ild hB zd94_274 rfl rfl ?_
          refine zn_ild hB zd94_275 rfl rfl ?_
          refine zn_ild hB zd94_277 rfl rfl ?_
          refine zn_any hB zd94_279 rfl (fun v279 q279 r279 => ?_)
          refine zn_iast hB zd94_280 rfl rfl (by omega) (by omega) ?_
          refine zn_goto hB zd94_281 rfl ?_
          refine zn_iinc hB zd94_386 rfl rfl (by omega) (by omega) ?_
          refine zn_goto hB zd94_389 rfl ?_
          exact ih _ _ _ _ _ _ (by omega) (by omega) (by omega) (by omega) (by omega)
        refine ⟨fun s215 => ⟨_, rfl, ?_⟩, fun s215 => ?_⟩
        · refine zn_ald hB zd94_284 rfl rfl rfl ?_
          refine zn_getr hB zd94_285 rfl ?_
          refine zn_ild hB zd94_288 rfl rfl ?_
          refine zn_ild hB zd94_289 rfl rfl ?_
          refine zn_ild hB zd94_291 rfl rfl ?_
          refine zn_any hB zd94_293 rfl (fun v293 q293 r293 => ?_)
          refine zn_iast hB zd94_294 rfl rfl (by omega) (by omega) ?_
          refine zn_goto hB zd94_295 rfl ?_
          refine zn_iinc hB zd94_386 rfl rfl (by omega) (by omega) ?_
          refine zn_goto hB zd94_389 rfl ?_
          exact ih _ _ _ _ _ _ (by omega) (by omega) (by omega) (by omega) (by omega)
        refine ⟨fun s215 => ⟨_, rfl, ?_⟩, fun s215 => ?_⟩
        · refine zn_ald hB zd94_298 rfl rfl rfl ?_
          refine zn_getr hB zd94_299 rfl ?_
          refine zn_ild hB zd94_302 rfl rfl ?_
          refine zn_ild hB zd94_303 rfl rfl ?_
          refine zn_ild hB zd94_305 rfl rfl ?_
          refine zn_any0 hB zd94_307 rfl (by omega) (fun v307 q307 r307 => ?_)
          refine zn_iast hB zd94_308 rfl rfl (by omega) (by omega) ?_
          refine zn_goto hB zd94_309 rfl ?_
          refine zn_iinc hB zd94_386 rfl rfl (by omega) (by omega) ?_
          refine zn_goto hB zd94_389 rfl ?_
          exact ih _ _ _ _ _ _ (by omega) (by omega) (by omega) (by omega) (by omega)
        refine ⟨fun s215 => ⟨_, rfl, ?_⟩, fun s215 => ?_⟩
        · refine zn_ald hB zd94_312 rfl rfl rfl ?_
          refine zn_getr hB zd94_313 rfl ?_
          refine zn_ild hB zd94_316 rfl rfl ?_
          refine zn_ild hB zd94_317 rfl rfl ?_
          refine zn_ild hB zd94_319 rfl rfl ?_
          refine zn_any0 hB zd94_321 rfl (by omega) (fun v321 q321 r321 => ?_)
          refine zn_iast hB zd94_322 rfl rfl (by omega) (by omega) ?_
          refine zn_goto hB zd94_323 rfl ?_
          refine zn_iinc hB zd94_386 rfl rfl (by omega) (by omega) ?_
          refine zn_goto hB zd94_389 rfl ?_
          exact ih _ _ _ _ _ _ (by omega) (by omega) (by omega) (by omega) (by omega)
        refine ⟨fun s215 => ⟨_, rfl, ?_⟩, fun s215 => ?_⟩
        · refine zn_ald hB zd94_326 rfl rfl rfl ?_
          refine zn_getr hB zd94_327 rfl ?_
          refine zn_ild hB zd94_330 rfl rfl ?_
          refine zn_ild hB zd94_331 rfl rfl ?_
          refine zn_ild hB zd94_333 rfl rfl ?_
          refine zn_cge hB zd94_335 rfl (fun h335 => ?_) (fun h335 => ?_)
          · refine zn_con hB zd94_342 rfl ?_
            refine zn_iast hB zd94_343 rfl rfl (by omega) (by omega) ?_
            refine zn_goto hB zd94_344 rfl ?_
            refine zn_iinc hB zd94_386 rfl rfl (by omega) (by omega) ?_
            refine zn_goto hB zd94_389 rfl ?_
            exact ih _ _ _ _ _ _ (by omega) (by omega) (by omega) (by omega) (by omega)
          · refine zn_con hB zd94_338 rfl ?_
            refine zn_goto hB zd94_339 rfl ?_
            refine zn_iast hB zd94_343 rfl rfl (by omega) (by omega) ?_
            refine zn_goto hB zd94_344 rfl ?_
            refine zn_iinc hB zd94_386 rfl rfl (by omega) (by omega) ?_
            refine zn_goto hB zd94_389 rfl ?_
            exact ih _ _ _ _ _ _ (by omega) (by omega) (by omega) (by omega) (by omega)
        refine ⟨fun s215 => ⟨_, rfl, ?_⟩, fun s215 => ?_⟩
        · refine zn_ald hB zd94_347 rfl rfl rfl ?_
          refine zn_getr hB zd94_348 rfl ?_
          refine zn_ild hB zd94_351 rfl rfl ?_
          refine zn_ild hB zd94_352 rfl rfl ?_
          refine zn_ild hB zd94_354 rfl rfl ?_
          refine zn_cle hB zd94_356 rfl (fun h356 => ?_) (fun h356 => ?_)
          · refine zn_con hB zd94_363 rfl ?_
            refine zn_iast hB zd94_364 rfl rfl (by omega) (by omega) ?_
            refine zn_goto hB zd94_365 rfl ?_
            refine zn_iinc hB zd94_386 rfl rfl (by omega) (by omega) ?_
            refine zn_goto hB zd94_389 rfl ?_
            exact ih _ _ _ _ _ _ (by omega) (by omega) (by omega) (by omega) (by omega)
          · refine zn_con hB zd94_359 rfl ?_
            refine zn_goto hB zd94_360 rfl ?_
            refine zn_iast hB zd94_364 rfl rfl (by omega) (by omega) ?_
            refine zn_goto hB zd94_365 rfl ?_
            refine zn_iinc hB zd94_386 rfl rfl (by omega) (by omega) ?_
            refine zn_goto hB zd94_389 rfl ?_
            exact ih _ _ _ _ _ _ (by omega) (by omega) (by omega) (by omega) (by omega)
        refine ⟨_, rfl, ?_⟩
        refine zn_ald hB zd94_368 rfl rfl rfl ?_
        refine zn_getr hB zd94_369 rfl ?_
        refine zn_ild hB zd94_372 rfl rfl ?_
        refine zn_ild hB zd94_373 rfl rfl ?_
        refine zn_ild hB zd94_375 rfl rfl ?_
        refine zn_cne hB zd94_377 rfl (fun h377 => ?_) (fun h377 => ?_)
        · refine zn_con hB zd94_384 rfl ?_
          refine zn_iast hB zd94_385 rfl rfl (by omega) (by omega) ?_
          refine zn_iinc hB zd94_386 rfl rfl (by omega) (by omega) ?_
          refine zn_goto hB zd94_389 rfl ?_
          exact ih _ _ _ _ _ _ (by omega) (by omega) (by omega) (by omega) (by omega)
        · refine zn_con hB zd94_380 rfl ?_
          refine zn_goto hB zd94_381 rfl ?_
          refine zn_iast hB zd94_385 rfl rfl (by omega) (by omega) ?_
          refine zn_iinc hB zd94_386 rfl rfl (by omega) (by omega) ?_
          refine zn_goto hB zd94_389 rfl ?_
          exact ih _ _ _ _ _ _ (by omega) (by omega) (by omega) (by omega) (by omega)
      refine zn_ild hB zd94_5 rfl rfl ?_
      refine zn_ild hB zd94_7 rfl rfl ?_
      refine zn_cge hB zd94_8 rfl (fun h8 => ?_) (fun h8 => ?_)
      · refine zn_ald hB zd94_392 rfl rfl rfl ?_
        refine zn_ild hB zd94_393 rfl rfl ?_
        refine zn_zge hB zd94_394 rfl (fun h394 => ?_) (fun h394 => ?_)
        · refine zn_ald hB zd94_401 rfl rfl rfl ?_
          refine zn_getr hB zd94_402 rfl ?_
          refine zn_ild hB zd94_405 rfl rfl ?_
          refine zn_iald hB zd94_406 rfl rfl (by omega) (by omega) (fun q406 r406 => ?_)
          refine zn_putf hB zd94_407 rfl rfl (fun h => by cases h) rfl ?_
          refine zn_con hB zd94_410 rfl ?_
          exact hret _ _ _ _ _ zd94_411 (by constructor <;> decide) ⟨_, _, _, rfl, rfl, rfl⟩
        · refine zn_con hB zd94_397 rfl ?_
          refine zn_goto hB zd94_398 rfl ?_
          refine zn_putf hB zd94_407 rfl rfl (fun h => by cases h) rfl ?_
          refine zn_con hB zd94_410 rfl ?_
          exact hret _ _ _ _ _ zd94_411 (by constructor <;> decide) ⟨_, _, _, rfl, rfl, rfl⟩
      · have hlt : stp < 200 := by omega
        obtain ⟨q1, q2, q3, q4, q5⟩ := hJ stp e4 hlt
        refine zn_ald hB zd94_11 rfl rfl rfl ?_
        refine zn_getr hB zd94_12 rfl ?_
        refine zn_ild hB zd94_15 rfl rfl ?_
        refine zn_iald hB zd94_17 rfl rfl (by omega) (by omega) (fun q17 r17 => ?_)
        refine zn_ist hB zd94_18 rfl rfl rfl ?_
        refine zn_ild hB zd94_20 rfl rfl ?_
        refine zn_con hB zd94_22 rfl ?_
        refine zn_cgt hB zd94_23 rfl (fun h23 => ?_) (fun h23 => ?_)
        · refine zn_ild hB zd94_73 rfl rfl ?_
          refine zn_ild hB zd94_74 rfl rfl ?_
          refine zn_con hB zd94_76 rfl ?_
          refine zn_cge hB zd94_77 rfl (fun h77 => ?_) (fun h77 => ?_)
          · refine zn_con hB zd94_84 rfl ?_
            refine zn_cge hB zd94_85 rfl (fun h85 => ?_) (fun h85 => ?_)
            · refine zn_ald hB zd94_90 rfl rfl rfl ?_
              refine zn_getr hB zd94_91 rfl ?_
              refine zn_ild hB zd94_94 rfl rfl ?_
              refine zn_iald hB zd94_95 rfl rfl (by omega) (by omega) (fun q95 r95 => ?_)
              refine zn_ist hB zd94_96 rfl rfl rfl ?_
              refine zn_ild hB zd94_98 rfl rfl ?_
              refine zn_con hB zd94_100 rfl ?_
              refine zn_cne hB zd94_101 rfl (fun h101 => ?_) (fun h101 => ?_)
              · refine zn_ild hB zd94_123 rfl rfl ?_
                refine zn_con hB zd94_125 rfl ?_
                refine zn_cge hB zd94_126 rfl (fun h126 => ?_) (fun h126 => ?_)
                · refine zn_iinc hB zd94_172 rfl rfl (by omega) (by omega) ?_
                  refine zn_ild hB zd94_175 rfl rfl ?_
                  refine zn_con hB zd94_177 rfl ?_
                  refine zn_cge hB zd94_178 rfl (fun h178 => ?_) (fun h178 => ?_)
                  · refine zn_ild hB zd94_184 rfl rfl ?_
                    refine zn_zne hB zd94_186 rfl (fun h186 => ?_) (fun h186 => ?_)
                    · exact sw _ _ _ (by omega) (by omega) (by omega) (by omega)
                    · refine zn_ild hB zd94_189 rfl rfl ?_
                      refine zn_con hB zd94_191 rfl ?_
                      refine zn_ceq hB zd94_193 rfl (fun h193 => ?_) (fun h193 => ?_)
                      · refine zn_con hB zd94_203 rfl ?_
                        exact hret _ _ _ _ _ zd94_204 (by constructor <;> decide) ⟨_, _, _, rfl, rfl, rfl⟩
                      · refine zn_ild hB zd94_196 rfl rfl ?_
                        refine zn_con hB zd94_198 rfl ?_
                        refine zn_cne hB zd94_200 rfl (fun h200 => ?_) (fun h200 => ?_)
                        · exact sw _ _ _ (by omega) (by omega) (by omega) (by omega)
                        · refine zn_con hB zd94_203 rfl ?_
                          exact hret _ _ _ _ _ zd94_204 (by constructor <;> decide) ⟨_, _, _, rfl, rfl, rfl⟩
                  · refine zn_goto hB zd94_181 rfl ?_
                    refine zn_iinc hB zd94_386 rfl rfl (by omega) (by omega) ?_
                    refine zn_goto hB zd94_389 rfl ?_
                    exact ih _ _ _ _ _ _ (by omega) (by omega) (by omega) (by omega) (by omega)
                · refine zn_ild hB zd94_129 rfl rfl ?_
                  refine zn_zeq hB zd94_131 rfl (fun h131 => ?_) (fun h131 => ?_)
                  · refine zn_con hB zd94_138 rfl ?_
                    refine zn_ild hB zd94_139 rfl rfl ?_
                    refine zn_con hB zd94_141 rfl ?_
                    refine zn_cne hB zd94_142 rfl (fun h142 => ?_) (fun h142 => ?_)
                    · refine zn_con hB zd94_149 rfl ?_
                      refine zn_cne hB zd94_150 rfl (fun h150 => ?_) (fun h150 => ?_)
                      · refine zn_iinc hB zd94_172 rfl rfl (by omega) (by omega) ?_
                        refine zn_ild hB zd94_175 rfl rfl ?_
                        refine zn_con hB zd94_177 rfl ?_
                        refine zn_cge hB zd94_178 rfl (fun h178 => ?_) (fun h178 => ?_)
                        · refine zn_ild hB zd94_184 rfl rfl ?_
                          refine zn_zne hB zd94_186 rfl (fun h186 => ?_) (fun h186 => ?_)
                          · exact sw _ _ _ (by omega) (by omega) (by omega) (by omega)
                          · refine zn_ild hB zd94_189 rfl rfl ?_
                            refine zn_con hB zd94_191 rfl ?_
                            refine zn_ceq hB zd94_193 rfl (fun h193 => ?_) (fun h193 => ?_)
                            · refine zn_con hB zd94_203 rfl ?_
                              exact hret _ _ _ _ _ zd94_204 (by constructor <;> decide) ⟨_, _, _, rfl, rfl, rfl⟩
                            · refine zn_ild hB zd94_196 rfl rfl ?_
                              refine zn_con hB zd94_198 rfl ?_
                              refine zn_cne hB zd94_200 rfl (fun h200 => ?_) (fun h200 => ?_)
                              · exact sw _ _ _ (by omega) (by omega) (by omega) (by omega)
                              · refine zn_con hB zd94_203 rfl ?_
                                exact hret _ _ _ _ _ zd94_204 (by constructor <;> decide) ⟨_, _, _, rfl, rfl, rfl⟩
                        · refine zn_goto hB zd94_181 rfl ?_
                          refine zn_iinc hB zd94_386 rfl rfl (by omega) (by omega) ?_
                          refine zn_goto hB zd94_389 rfl ?_
                          exact ih _ _ _ _ _ _ (by omega) (by omega) (by omega) (by omega) (by omega)
                      · refine zn_ild hB zd94_153 rfl rfl ?_
                        refine zn_ald hB zd94_155 rfl rfl rfl ?_
                        refine zn_getr hB zd94_156 rfl ?_
                        refine zn_ild hB zd94_159 rfl rfl ?_
                        refine zn_iald hB zd94_161 rfl rfl (by omega) (by omega) (fun q161 r161 => ?_)
                        refine zn_con hB zd94_162 rfl ?_
                        refine zn_isub hB zd94_163 (by omega) (by omega) ?_
                        refine zn_it2 hB zh55 zd94_164 zxt55 rfl rfl (fun r164 F164 G164 hq164 => ?_)
                        obtain ⟨rfl, rfl, v, rfl, v1, v2, v3⟩ := hq164
                        refine zn_ist hB zd94_167 rfl rfl rfl ?_
                        refine zn_goto hB zd94_169 rfl ?_
                        refine zn_iinc hB zd94_386 rfl rfl (by omega) (by omega) ?_
                        refine zn_goto hB zd94_389 rfl ?_
                        exact ih _ _ _ _ _ _ (by omega) (by omega) (by omega) (by omega) (by omega)
                    · refine zn_con hB zd94_145 rfl ?_
                      refine zn_goto hB zd94_146 rfl ?_
                      refine zn_cne hB zd94_150 rfl (fun h150 => ?_) (fun h150 => ?_)
                      · refine zn_iinc hB zd94_172 rfl rfl (by omega) (by omega) ?_
                        refine zn_ild hB zd94_175 rfl rfl ?_
                        refine zn_con hB zd94_177 rfl ?_
                        refine zn_cge hB zd94_178 rfl (fun h178 => ?_) (fun h178 => ?_)
                        · refine zn_ild hB zd94_184 rfl rfl ?_
                          refine zn_zne hB zd94_186 rfl (fun h186 => ?_) (fun h186 => ?_)
                          · exact sw _ _ _ (by omega) (by omega) (by omega) (by omega)
                          · refine zn_ild hB zd94_189 rfl rfl ?_
                            refine zn_con hB zd94_191 rfl ?_
                            refine zn_ceq hB zd94_193 rfl (fun h193 => ?_) (fun h193 => ?_)
                            · refine zn_con hB zd94_203 rfl ?_
                              exact hret _ _ _ _ _ zd94_204 (by constructor <;> decide) ⟨_, _, _, rfl, rfl, rfl⟩
                            · refine zn_ild hB zd94_196 rfl rfl ?_
                              refine zn_con hB zd94_198 rfl ?_
                              refine zn_cne hB zd94_200 rfl (fun h200 => ?_) (fun h200 => ?_)
                              · exact sw _ _ _ (by omega) (by omega) (by omega) (by omega)
                              · refine zn_con hB zd94_203 rfl ?_
                                exact hret _ _ _ _ _ zd94_204 (by constructor <;> decide) ⟨_, _, _, rfl, rfl, rfl⟩
                        · refine zn_goto hB zd94_181 rfl ?_
                          refine zn_iinc hB zd94_386 rfl rfl (by omega) (by omega) ?_
                          refine zn_goto hB zd94_389 rfl ?_
                          exact ih _ _ _ _ _ _ (by omega) (by omega) (by omega) (by omega) (by omega)
                      · refine zn_ild hB zd94_153 rfl rfl ?_
                        refine zn_ald hB zd94_155 rfl rfl rfl ?_
                        refine zn_getr hB zd94_156 rfl ?_
                        refine zn_ild hB zd94_159 rfl rfl ?_
                        refine zn_iald hB zd94_161 rfl rfl (by omega) (by omega) (fun q161 r161 => ?_)
                        refine zn_con hB zd94_162 rfl ?_
                        refine zn_isub hB zd94_163 (by omega) (by omega) ?_
                        refine zn_it2 hB zh55 zd94_164 zxt55 rfl rfl (fun r164 F164 G164 hq164 => ?_)
                        obtain ⟨rfl, rfl, v, rfl, v1, v2, v3⟩ := hq164
                        refine zn_ist hB zd94_167 rfl rfl rfl ?_
                        refine zn_goto hB zd94_169 rfl ?_
                        refine zn_iinc hB zd94_386 rfl rfl (by omega) (by omega) ?_
                        refine zn_goto hB zd94_389 rfl ?_
                        exact ih _ _ _ _ _ _ (by omega) (by omega) (by omega) (by omega) (by omega)
                  · refine zn_con hB zd94_134 rfl ?_
                    refine zn_goto hB zd94_135 rfl ?_
                    refine zn_ild hB zd94_139 rfl rfl ?_
                    refine zn_con hB zd94_141 rfl ?_
                    refine zn_cne hB zd94_142 rfl (fun h142 => ?_) (fun h142 => ?_)
                    · refine zn_con hB zd94_149 rfl ?_
                      refine zn_cne hB zd94_150 rfl (fun h150 => ?_) (fun h150 => ?_)
                      · refine zn_iinc hB zd94_172 rfl rfl (by omega) (by omega) ?_
                        refine zn_ild hB zd94_175 rfl rfl ?_
                        refine zn_con hB zd94_177 rfl ?_
                        refine zn_cge hB zd94_178 rfl (fun h178 => ?_) (fun h178 => ?_)
                        · refine zn_ild hB zd94_184 rfl rfl ?_
                          refine zn_zne hB zd94_186 rfl (fun h186 => ?_) (fun h186 => ?_)
                          · exact sw _ _ _ (by omega) (by omega) (by omega) (by omega)
                          · refine zn_ild hB zd94_189 rfl rfl ?_
                            refine zn_con hB zd94_191 rfl ?_
                            refine zn_ceq hB zd94_193 rfl (fun h193 => ?_) (fun h193 => ?_)
                            · refine zn_con hB zd94_203 rfl ?_
                              exact hret _ _ _ _ _ zd94_204 (by constructor <;> decide) ⟨_, _, _, rfl, rfl, rfl⟩
                            · refine zn_ild hB zd94_196 rfl rfl ?_
                              refine zn_con hB zd94_198 rfl ?_
                              refine zn_cne hB zd94_200 rfl (fun h200 => ?_) (fun h200 => ?_)
                              · exact sw _ _ _ (by omega) (by omega) (by omega) (by omega)
                              · refine zn_con hB zd94_203 rfl ?_
                                exact hret _ _ _ _ _ zd94_204 (by constructor <;> decide) ⟨_, _, _, rfl, rfl, rfl⟩
                        · refine zn_goto hB zd94_181 rfl ?_
                          refine zn_iinc hB zd94_386 rfl rfl (by omega) (by omega) ?_
                          refine zn_goto hB zd94_389 rfl ?_
                          exact ih _ _ _ _ _ _ (by omega) (by omega) (by omega) (by omega) (by omega)
                      · refine zn_ild hB zd94_153 rfl rfl ?_
                        refine zn_ald hB zd94_155 rfl rfl rfl ?_
                        refine zn_getr hB zd94_156 rfl ?_
                        refine zn_ild hB zd94_159 rfl rfl ?_
                        refine zn_iald hB zd94_161 rfl rfl (by omega) (by omega) (fun q161 r161 => ?_)
                        refine zn_con hB zd94_162 rfl ?_
                        refine zn_isub hB zd94_163 (by omega) (by omega) ?_
                        refine zn_it2 hB zh55 zd94_164 zxt55 rfl rfl (fun r164 F164 G164 hq164 => ?_)
                        obtain ⟨rfl, rfl, v, rfl, v1, v2, v3⟩ := hq164
                        refine zn_ist hB zd94_167 rfl rfl rfl ?_
                        refine zn_goto hB zd94_169 rfl ?_
                        refine zn_iinc hB zd94_386 rfl rfl (by omega) (by omega) ?_
                        refine zn_goto hB zd94_389 rfl ?_
                        exact ih _ _ _ _ _ _ (by omega) (by omega) (by omega) (by omega) (by omega)
                    · refine zn_con hB zd94_145 rfl ?_
                      refine zn_goto hB zd94_146 rfl ?_
                      refine zn_cne hB zd94_150 rfl (fun h150 => ?_) (fun h150 => ?_)
                      · refine zn_iinc hB zd94_172 rfl rfl (by omega) (by omega) ?_
                        refine zn_ild hB zd94_175 rfl rfl ?_
                        refine zn_con hB zd94_177 rfl ?_
                        refine zn_cge hB zd94_178 rfl (fun h178 => ?_) (fun h178 => ?_)
                        · refine zn_ild hB zd94_184 rfl rfl ?_
                          refine zn_zne hB zd94_186 rfl (fun h186 => ?_) (fun h186 => ?_)
                          · exact sw _ _ _ (by omega) (by omega) (by omega) (by omega)
                          · refine zn_ild hB zd94_189 rfl rfl ?_
                            refine zn_con hB zd94_191 rfl ?_
                            refine zn_ceq hB zd94_193 rfl (fun h193 => ?_) (fun h193 => ?_)
                            · refine zn_con hB zd94_203 rfl ?_
                              exact hret _ _ _ _ _ zd94_204 (by constructor <;> decide) ⟨_, _, _, rfl, rfl, rfl⟩
                            · refine zn_ild hB zd94_196 rfl rfl ?_
                              refine zn_con hB zd94_198 rfl ?_
                              refine zn_cne hB zd94_200 rfl (fun h200 => ?_) (fun h200 => ?_)
                              · exact sw _ _ _ (by omega) (by omega) (by omega) (by omega)
                              · refine zn_con hB zd94_203 rfl ?_
                                exact hret _ _ _ _ _ zd94_204 (by constructor <;> decide) ⟨_, _, _, rfl, rfl, rfl⟩
                        · refine zn_goto hB zd94_181 rfl ?_
                          refine zn_iinc hB zd94_386 rfl rfl (by omega) (by omega) ?_
                          refine zn_goto hB zd94_389 rfl ?_
                          exact ih _ _ _ _ _ _ (by omega) (by omega) (by omega) (by omega) (by omega)
                      · refine zn_ild hB zd94_153 rfl rfl ?_
                        refine zn_ald hB zd94_155 rfl rfl rfl ?_
                        refine zn_getr hB zd94_156 rfl ?_
                        refine zn_ild hB zd94_159 rfl rfl ?_
                        refine zn_iald hB zd94_161 rfl rfl (by omega) (by omega) (fun q161 r161 => ?_)
                        refine zn_con hB zd94_162 rfl ?_
                        refine zn_isub hB zd94_163 (by omega) (by omega) ?_
                        refine zn_it2 hB zh55 zd94_164 zxt55 rfl rfl (fun r164 F164 G164 hq164 => ?_)
                        obtain ⟨rfl, rfl, v, rfl, v1, v2, v3⟩ := hq164
                        refine zn_ist hB zd94_167 rfl rfl rfl ?_
                        refine zn_goto hB zd94_169 rfl ?_
                        refine zn_iinc hB zd94_386 rfl rfl (by omega) (by omega) ?_
                        refine zn_goto hB zd94_389 rfl ?_
                        exact ih _ _ _ _ _ _ (by omega) (by omega) (by omega) (by omega) (by omega)
              · refine zn_ald hB zd94_104 rfl rfl rfl ?_
                refine zn_getr hB zd94_105 rfl ?_
                refine zn_ild hB zd94_108 rfl rfl ?_
                refine zn_ild hB zd94_109 rfl rfl ?_
                refine zn_zne hB zd94_111 rfl (fun h111 => ?_) (fun h111 => ?_)
                · refine zn_con hB zd94_118 rfl ?_
                  refine zn_iast hB zd94_119 rfl rfl (by omega) (by omega) ?_
                  refine zn_goto hB zd94_120 rfl ?_
                  refine zn_iinc hB zd94_386 rfl rfl (by omega) (by omega) ?_
                  refine zn_goto hB zd94_389 rfl ?_
                  exact ih _ _ _ _ _ _ (by omega) (by omega) (by omega) (by omega) (by omega)
                · refine zn_con hB zd94_114 rfl ?_
                  refine zn_goto hB zd94_115 rfl ?_
                  refine zn_iast hB zd94_119 rfl rfl (by omega) (by omega) ?_
                  refine zn_goto hB zd94_120 rfl ?_
                  refine zn_iinc hB zd94_386 rfl rfl (by omega) (by omega) ?_
                  refine zn_goto hB zd94_389 rfl ?_
                  exact ih _ _ _ _ _ _ (by omega) (by omega) (by omega) (by omega) (by omega)
            · refine zn_con hB zd94_88 rfl ?_
              exact hret _ _ _ _ _ zd94_89 (by constructor <;> decide) ⟨_, _, _, rfl, rfl, rfl⟩
          · refine zn_con hB zd94_80 rfl ?_
            refine zn_goto hB zd94_81 rfl ?_
            refine zn_cge hB zd94_85 rfl (fun h85 => ?_) (fun h85 => ?_)
            · refine zn_ald hB zd94_90 rfl rfl rfl ?_
              refine zn_getr hB zd94_91 rfl ?_
              refine zn_ild hB zd94_94 rfl rfl ?_
              refine zn_iald hB zd94_95 rfl rfl (by omega) (by omega) (fun q95 r95 => ?_)
              refine zn_ist hB zd94_96 rfl rfl rfl ?_
              refine zn_ild hB zd94_98 rfl rfl ?_
              refine zn_con hB zd94_100 rfl ?_
              refine zn_cne hB zd94_101 rfl (fun h101 => ?_) (fun h101 => ?_)
              · refine zn_ild hB zd94_123 rfl rfl ?_
                refine zn_con hB zd94_125 rfl ?_
                refine zn_cge hB zd94_126 rfl (fun h126 => ?_) (fun h126 => ?_)
                · refine zn_iinc hB zd94_172 rfl rfl (by omega) (by omega) ?_
                  refine zn_ild hB zd94_175 rfl rfl ?_
                  refine zn_con hB zd94_177 rfl ?_
                  refine zn_cge hB zd94_178 rfl (fun h178 => ?_) (fun h178 => ?_)
                  · refine zn_ild hB zd94_184 rfl rfl ?_
                    refine zn_zne hB zd94_186 rfl (fun h186 => ?_) (fun h186 => ?_)
                    · exact sw _ _ _ (by omega) (by omega) (by omega) (by omega)
                    · refine zn_ild hB zd94_189 rfl rfl ?_
                      refine zn_con hB zd94_191 rfl ?_
                      refine zn_ceq hB zd94_193 rfl (fun h193 => ?_) (fun h193 => ?_)
                      · refine zn_con hB zd94_203 rfl ?_
                        exact hret _ _ _ _ _ zd94_204 (by constructor <;> decide) ⟨_, _, _, rfl, rfl, rfl⟩
                      · refine zn_ild hB zd94_196 rfl rfl ?_
                        refine zn_con hB zd94_198 rfl ?_
                        refine zn_cne hB zd94_200 rfl (fun h200 => ?_) (fun h200 => ?_)
                        · exact sw _ _ _ (by omega) (by omega) (by omega) (by omega)
                        · refine zn_con hB zd94_203 rfl ?_
                          exact hret _ _ _ _ _ zd94_204 (by constructor <;> decide) ⟨_, _, _, rfl, rfl, rfl⟩
                  · refine zn_goto hB zd94_181 rfl ?_
                    refine zn_iinc hB zd94_386 rfl rfl (by omega) (by omega) ?_
                    refine zn_goto hB zd94_389 rfl ?_
                    exact ih _ _ _ _ _ _ (by omega) (by omega) (by omega) (by omega) (by omega)
                · refine zn_ild hB zd94_129 rfl rfl ?_
                  refine zn_zeq hB zd94_131 rfl (fun h131 => ?_) (fun h131 => ?_)
                  · refine zn_con hB zd94_138 rfl ?_
                    refine zn_ild hB zd94_139 rfl rfl ?_
                    refine zn_con hB zd94_141 rfl ?_
                    refine zn_cne hB zd94_142 rfl (fun h142 => ?_) (fun h142 => ?_)
                    · refine zn_con hB zd94_149 rfl ?_
                      refine zn_cne hB zd94_150 rfl (fun h150 => ?_) (fun h150 => ?_)
                      · refine zn_iinc hB zd94_172 rfl rfl (by omega) (by omega) ?_
                        refine zn_ild hB zd94_175 rfl rfl ?_
                        refine zn_con hB zd94_177 rfl ?_
                        refine zn_cge hB zd94_178 rfl (fun h178 => ?_) (fun h178 => ?_)
                        · refine zn_ild hB zd94_184 rfl rfl ?_
                          refine zn_zne hB zd94_186 rfl (fun h186 => ?_) (fun h186 => ?_)
                          · exact sw _ _ _ (by omega) (by omega) (by omega) (by omega)
                          · refine zn_ild hB zd94_189 rfl rfl ?_
                            refine zn_con hB zd94_191 rfl ?_
                            refine zn_ceq hB zd94_193 rfl (fun h193 => ?_) (fun h193 => ?_)
                            · refine zn_con hB zd94_203 rfl ?_
                              exact hret _ _ _ _ _ zd94_204 (by constructor <;> decide) ⟨_, _, _, rfl, rfl, rfl⟩
                            · refine zn_ild hB zd94_196 rfl rfl ?_
                              refine zn_con hB zd94_198 rfl ?_
                              refine zn_cne hB zd94_200 rfl (fun h200 => ?_) (fun h200 => ?_)
                              · exact sw _ _ _ (by omega) (by omega) (by omega) (by omega)
                              · refine zn_con hB zd94_203 rfl ?_
                                exact hret _ _ _ _ _ zd94_204 (by constructor <;> decide) ⟨_, _, _, rfl, rfl, rfl⟩
                        · refine zn_goto hB zd94_181 rfl ?_
                          refine zn_iinc hB zd94_386 rfl rfl (by omega) (by omega) ?_
                          refine zn_goto hB zd94_389 rfl ?_
                          exact ih _ _ _ _ _ _ (by omega) (by omega) (by omega) (by omega) (by omega)
                      · refine zn_ild hB zd94_153 rfl rfl ?_
                        refine zn_ald hB zd94_155 rfl rfl rfl ?_
                        refine zn_getr hB zd94_156 rfl ?_
                        refine zn_ild hB zd94_159 rfl rfl ?_
                        refine zn_iald hB zd94_161 rfl rfl (by omega) (by omega) (fun q161 r161 => ?_)
                        refine zn_con hB zd94_162 rfl ?_
                        refine zn_isub hB zd94_163 (by omega) (by omega) ?_
                        refine zn_it2 hB zh55 zd94_164 zxt55 rfl rfl (fun r164 F164 G164 hq164 => ?_)
                        obtain ⟨rfl, rfl, v, rfl, v1, v2, v3⟩ := hq164
                        refine zn_ist hB zd94_167 rfl rfl rfl ?_
                        refine zn_goto hB zd94_169 rfl ?_
                        refine zn_iinc hB zd94_386 rfl rfl (by omega) (by omega) ?_
                        refine zn_goto hB zd94_389 rfl ?_
                        exact ih _ _ _ _ _ _ (by omega) (by omega) (by omega) (by omega) (by omega)
                    · refine zn_con hB zd94_145 rfl ?_
                      refine zn_goto hB zd94_146 rfl ?_
                      refine zn_cne hB zd94_150 rfl (fun h150 => ?_) (fun h150 => ?_)
                      · refine zn_iinc hB zd94_172 rfl rfl (by omega) (by omega) ?_
                        refine zn_ild hB zd94_175 rfl rfl ?_
                        refine zn_con hB zd94_177 rfl ?_
                        refine zn_cge hB zd94_178 rfl (fun h178 => ?_) (fun h178 => ?_)
                        · refine zn_ild hB zd94_184 rfl rfl ?_
                          refine zn_zne hB zd94_186 rfl (fun h186 => ?_) (fun h186 => ?_)
                          · exact sw _ _ _ (by omega) (by omega) (by omega) (by omega)
                          · refine zn_ild hB zd94_189 rfl rfl ?_
                            refine zn_con hB zd94_191 rfl ?_
                            refine zn_ceq hB zd94_193 rfl (fun h193 => ?_) (fun h193 => ?_)
                            · refine zn_con hB zd94_203 rfl ?_
                              exact hret _ _ _ _ _ zd94_204 (by constructor <;> decide) ⟨_, _, _, rfl, rfl, rfl⟩
                            · refine zn_ild hB zd94_196 rfl rfl ?_
                              refine zn_con hB zd94_198 rfl ?_
                              refine zn_cne hB zd94_200 rfl (fun h200 => ?_) (fun h200 => ?_)
                              · exact sw _ _ _ (by omega) (by omega) (by omega) (by omega)
                              · refine zn_con hB zd94_203 rfl ?_
                                exact hret _ _ _ _ _ zd94_204 (by constructor <;> decide) ⟨_, _, _, rfl, rfl, rfl⟩
                        · refine zn_goto hB zd94_181 rfl ?_
                          refine zn_iinc hB zd94_386 rfl rfl (by omega) (by omega) ?_
                          refine zn_goto hB zd94_389 rfl ?_
                          exact ih _ _ _ _ _ _ (by omega) (by omega) (by omega) (by omega) (by omega)
                      · refine zn_ild hB zd94_153 rfl rfl ?_
                        refine zn_ald hB zd94_155 rfl rfl rfl ?_
                        refine zn_getr hB zd94_156 rfl ?_
                        refine zn_ild hB zd94_159 rfl rfl ?_
                        refine zn_iald hB zd94_161 rfl rfl (by omega) (by omega) (fun q161 r161 => ?_)
                        refine zn_con hB zd94_162 rfl ?_
                        refine zn_isub hB zd94_163 (by omega) (by omega) ?_
                        refine zn_it2 hB zh55 zd94_164 zxt55 rfl rfl (fun r164 F164 G164 hq164 => ?_)
                        obtain ⟨rfl, rfl, v, rfl, v1, v2, v3⟩ := hq164
                        refine zn_ist hB zd94_167 rfl rfl rfl ?_
                        refine zn_goto hB zd94_169 rfl ?_
                        refine zn_iinc hB zd94_386 rfl rfl (by omega) (by omega) ?_
                        refine zn_goto hB zd94_389 rfl ?_
                        exact ih _ _ _ _ _ _ (by omega) (by omega) (by omega) (by omega) (by omega)
                  · refine zn_con hB zd94_134 rfl ?_
                    refine zn_goto hB zd94_135 rfl ?_
                    refine zn_ild hB zd94_139 rfl rfl ?_
                    refine zn_con hB zd94_141 rfl ?_
                    refine zn_cne hB zd94_142 rfl (fun h142 => ?_) (fun h142 => ?_)
                    · refine zn_con hB zd94_149 rfl ?_
                      refine zn_cne hB zd94_150 rfl (fun h150 => ?_) (fun h150 => ?_)
                      · refine zn_iinc hB zd94_172 rfl rfl (by omega) (by omega) ?_
                        refine zn_ild hB zd94_175 rfl rfl ?_
                        refine zn_con hB zd94_177 rfl ?_
                        refine zn_cge hB zd94_178 rfl (fun h178 => ?_) (fun h178 => ?_)
                        · refine zn_ild hB zd94_184 rfl rfl ?_
                          refine zn_zne hB zd94_186 rfl (fun h186 => ?_) (fun h186 => ?_)
                          · exact sw _ _ _ (by omega) (by omega) (by omega) (by omega)
                          · refine zn_ild hB zd94_189 rfl rfl ?_
                            refine zn_con hB zd94_191 rfl ?_
                            refine zn_ceq hB zd94_193 rfl (fun h193 => ?_) (fun h193 => ?_)
                            · refine zn_con hB zd94_203 rfl ?_
                              exact hret _ _ _ _ _ zd94_204 (by constructor <;> decide) ⟨_, _, _, rfl, rfl, rfl⟩
                            · refine zn_ild hB zd94_196 rfl rfl ?_
                              refine zn_con hB zd94_198 rfl ?_
                              refine zn_cne hB zd94_200 rfl (fun h200 => ?_) (fun h200 => ?_)
                              · exact sw _ _ _ (by omega) (by omega) (by omega) (by omega)
                              · refine zn_con hB zd94_203 rfl ?_
                                exact hret _ _ _ _ _ zd94_204 (by constructor <;> decide) ⟨_, _, _, rfl, rfl, rfl⟩
                        · refine zn_goto hB zd94_181 rfl ?_
                          refine zn_iinc hB zd94_386 rfl rfl (by omega) (by omega) ?_
                          refine zn_goto hB zd94_389 rfl ?_
                          exact ih _ _ _ _ _ _ (by omega) (by omega) (by omega) (by omega) (by omega)
                      · refine zn_ild hB zd94_153 rfl rfl ?_
                        refine zn_ald hB zd94_155 rfl rfl rfl ?_
                        refine zn_getr hB zd94_156 rfl ?_
                        refine zn_ild hB zd94_159 rfl rfl ?_
                        refine zn_iald hB zd94_161 rfl rfl (by omega) (by omega) (fun q161 r161 => ?_)
                        refine zn_con hB zd94_162 rfl ?_
                        refine zn_isub hB zd94_163 (by omega) (by omega) ?_
                        refine zn_it2 hB zh55 zd94_164 zxt55 rfl rfl (fun r164 F164 G164 hq164 => ?_)
                        obtain ⟨rfl, rfl, v, rfl, v1, v2, v3⟩ := hq164
                        refine zn_ist hB zd94_167 rfl rfl rfl ?_
                        refine zn_goto hB zd94_169 rfl ?_
                        refine zn_iinc hB zd94_386 rfl rfl (by omega) (by omega) ?_
                        refine zn_goto hB zd94_389 rfl ?_
                        exact ih _ _ _ _ _ _ (by omega) (by omega) (by omega) (by omega) (by omega)
                    · refine zn_con hB zd94_145 rfl ?_
                      refine zn_goto hB zd94_146 rfl ?_
                      refine zn_cne hB zd94_150 rfl (fun h150 => ?_) (fun h150 => ?_)
                      · refine zn_iinc hB zd94_172 rfl rfl (by omega) (by omega) ?_
                        refine zn_ild hB zd94_175 rfl rfl ?_
                        refine zn_con hB zd94_177 rfl ?_
                        refine zn_cge hB zd94_178 rfl (fun h178 => ?_) (fun h178 => ?_)
                        · refine zn_ild hB zd94_184 rfl rfl ?_
                          refine zn_zne hB zd94_186 rfl (fun h186 => ?_) (fun h186 => ?_)
                          · exact sw _ _ _ (by omega) (by omega) (by omega) (by omega)
                          · refine zn_ild hB zd94_189 rfl rfl ?_
                            refine zn_con hB zd94_191 rfl ?_
                            refine zn_ceq hB zd94_193 rfl (fun h193 => ?_) (fun h193 => ?_)
                            · refine zn_con hB zd94_203 rfl ?_
                              exact hret _ _ _ _ _ zd94_204 (by constructor <;> decide) ⟨_, _, _, rfl, rfl, rfl⟩
                            · refine zn_ild hB zd94_196 rfl rfl ?_
                              refine zn_con hB zd94_198 rfl ?_
                              refine zn_cne hB zd94_200 rfl (fun h200 => ?_) (fun h200 => ?_)
                              · exact sw _ _ _ (by omega) (by omega) (by omega) (by omega)
                              · refine zn_con hB zd94_203 rfl ?_
                                exact hret _ _ _ _ _ zd94_204 (by constructor <;> decide) ⟨_, _, _, rfl, rfl, rfl⟩
                        · refine zn_goto hB zd94_181 rfl ?_
                          refine zn_iinc hB zd94_386 rfl rfl (by omega) (by omega) ?_
                          refine zn_goto hB zd94_389 rfl ?_
                          exact ih _ _ _ _ _ _ (by omega) (by omega) (by omega) (by omega) (by omega)
                      · refine zn_ild hB zd94_153 rfl rfl ?_
                        refine zn_ald hB zd94_155 rfl rfl rfl ?_
                        refine zn_getr hB zd94_156 rfl ?_
                        refine zn_ild hB zd94_159 rfl rfl ?_
                        refine zn_iald hB zd94_161 rfl rfl (by omega) (by omega) (fun q161 r161 => ?_)
                        refine zn_con hB zd94_162 rfl ?_
                        refine zn_isub hB zd94_163 (by omega) (by omega) ?_
                        refine zn_it2 hB zh55 zd94_164 zxt55 rfl rfl (fun r164 F164 G164 hq164 => ?_)
                        obtain ⟨rfl, rfl, v, rfl, v1, v2, v3⟩ := hq164
                        refine zn_ist hB zd94_167 rfl rfl rfl ?_
                        refine zn_goto hB zd94_169 rfl ?_
                        refine zn_iinc hB zd94_386 rfl rfl (by omega) (by omega) ?_
                        refine zn_goto hB zd94_389 rfl ?_
                        exact ih _ _ _ _ _ _ (by omega) (by omega) (by omega) (by omega) (by omega)
              · refine zn_ald hB zd94_104 rfl rfl rfl ?_
                refine zn_getr hB zd94_105 rfl ?_
                refine zn_ild hB zd94_108 rfl rfl ?_
                refine zn_ild hB zd94_109 rfl rfl ?_
                refine zn_zne hB zd94_111 rfl (fun h111 => ?_) (fun h111 => ?_)
                · refine zn_con hB zd94_118 rfl ?_
                  refine zn_iast hB zd94_119 rfl rfl (by omega) (by omega) ?_
                  refine zn_goto hB zd94_120 rfl ?_
                  refine zn_iinc hB zd94_386 rfl rfl (by omega) (by omega) ?_
                  refine zn_goto hB zd94_389 rfl ?_
                  exact ih _ _ _ _ _ _ (by omega) (by omega) (by omega) (by omega) (by omega)
                · refine zn_con hB zd94_114 rfl ?_
                  refine zn_goto hB zd94_115 rfl ?_
                  refine zn_iast hB zd94_119 rfl rfl (by omega) (by omega) ?_
                  refine zn_goto hB zd94_120 rfl ?_
                  refine zn_iinc hB zd94_386 rfl rfl (by omega) (by omega) ?_
                  refine zn_goto hB zd94_389 rfl ?_
                  exact ih _ _ _ _ _ _ (by omega) (by omega) (by omega) (by omega) (by omega)
            · refine zn_con hB zd94_88 rfl ?_
              exact hret _ _ _ _ _ zd94_89 (by constructor <;> decide) ⟨_, _, _, rfl, rfl, rfl⟩
        · refine zn_iinc hB zd94_26 rfl rfl (by omega) (by omega) ?_
          refine zn_ild hB zd94_29 rfl rfl ?_
          refine zn_con hB zd94_30 rfl ?_
          refine zn_clt hB zd94_32 rfl (fun h32 => ?_) (fun h32 => ?_)
          · refine zn_ald hB zd94_37 rfl rfl rfl ?_
            refine zn_getr hB zd94_38 rfl ?_
            refine zn_ild hB zd94_41 rfl rfl ?_
            refine zn_ild hB zd94_42 rfl rfl ?_
            refine zn_zne hB zd94_44 rfl (fun h44 => ?_) (fun h44 => ?_)
            · refine zn_ald hB zd94_57 rfl rfl rfl ?_
              refine zn_getr hB zd94_58 rfl ?_
              refine zn_ald hB zd94_61 rfl rfl rfl ?_
              refine zn_getr hB zd94_62 rfl ?_
              refine zn_ild hB zd94_65 rfl rfl ?_
              refine zn_iald hB zd94_67 rfl rfl (by omega) (by omega) (fun q67 r67 => ?_)
              refine zn_iald hB zd94_68 rfl rfl (by omega) (by omega) (fun q68 r68 => ?_)
              refine zn_iast hB zd94_69 rfl rfl (by omega) (by omega) ?_
              refine zn_goto hB zd94_70 rfl ?_
              refine zn_iinc hB zd94_386 rfl rfl (by omega) (by omega) ?_
              refine zn_goto hB zd94_389 rfl ?_
              exact ih _ _ _ _ _ _ (by omega) (by omega) (by omega) (by omega) (by omega)
            · refine zn_ald hB zd94_47 rfl rfl rfl ?_
              refine zn_getr hB zd94_48 rfl ?_
              refine zn_ild hB zd94_51 rfl rfl ?_
              refine zn_iald hB zd94_53 rfl rfl (by omega) (by omega) (fun q53 r53 => ?_)
              refine zn_goto hB zd94_54 rfl ?_
              refine zn_iast hB zd94_69 rfl rfl (by omega) (by omega) ?_
              refine zn_goto hB zd94_70 rfl ?_
              refine zn_iinc hB zd94_386 rfl rfl (by omega) (by omega) ?_
              refine zn_goto hB zd94_389 rfl ?_
              exact ih _ _ _ _ _ _ (by omega) (by omega) (by omega) (by omega) (by omega)
          · refine zn_con hB zd94_35 rfl ?_
            exact hret _ _ _ _ _ zd94_36 (by constructor <;> decide) ⟨_, _, _, rfl, rfl, rfl⟩
  refine zn_con hB zd94_0 rfl ?_
  refine zn_ist hB zd94_1 rfl rfl rfl ?_
  refine zn_ild hB zd94_2 rfl rfl ?_
  refine zn_ist hB zd94_3 rfl rfl rfl ?_
  exact key ((to - fr).toNat + 1) _ _ _ _ _ _ (by omega) (by omega) (by omega) (by omega) (by omega)
end ZLAWR4
