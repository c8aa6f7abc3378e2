/-! What is kept and taken back: exactly, on both sides. -/
abbrev zyK : zNL := (19, [(0, 0), (1, 1), (2, 1), (13, 2), (14, 2)], [(1, 1, 0, 0), (1, 1, 6, 1), (1, 1, 7, 2), (1, 1, 8, 3), (1, 1, 9, 4), (1, 1, 10, 5), (1, 1, 11, 6), (2, 1, 0, 7), (2, 1, 6, 8), (2, 1, 7, 9), (2, 1, 8, 10), (2, 1, 9, 11), (2, 1, 10, 12), (2, 1, 11, 13), (13, 2, 1, 14), (14, 2, 1, 15), (0, 0, 5, 16)], [(0, 0, 0, 1), (0, 0, 1, 2), (0, 0, 3, 13), (0, 0, 4, 14), (1, 1, 1, 3), (1, 1, 2, 4), (1, 1, 3, 5), (1, 1, 4, 6), (1, 1, 5, 7), (2, 1, 1, 8), (2, 1, 2, 9), (2, 1, 3, 10), (2, 1, 4, 11), (2, 1, 5, 12), (13, 2, 0, 15), (13, 2, 2, 16), (14, 2, 0, 17), (14, 2, 2, 18)], [(3, 0, 24, 0), (4, 0, 24, 1), (5, 0, 24, 2), (6, 0, 24, 3), (7, 0, 24, 4), (8, 0, 24, 5), (9, 0, 24, 6), (10, 0, 24, 7), (11, 0, 24, 8), (12, 0, 24, 9), (15, 0, 12, 10), (16, 0, 6, 11), (17, 0, 12, 12), (18, 0, 6, 13)])
section ZSK
variable {k t i a : Int} {nw as kp : Int → Int} {f0 f1 f2 f3 f4 f5 f6 f7 f8 f9 f10 f11 f12 f13 f14 f15 f16 : Int} {g0 g1 g2 g3 g4 g5 g6 g7 g8 g9 g10 g11 g12 g13 : Int → Int}
theorem zd257_0 : decode zxm257.2.1 0 = .ok (.iconst 0, 1) := by decide +kernel
theorem zd257_1 : decode zxm257.2.1 1 = .ok (.istore_n 1, 1) := by decide +kernel
theorem zd257_2 : decode zxm257.2.1 2 = .ok (.iconst 0, 1) := by decide +kernel
theorem zd257_3 : decode zxm257.2.1 3 = .ok (.istore_n 2, 1) := by decide +kernel
theorem zd257_4 : decode zxm257.2.1 4 = .ok (.iload_n 2, 1) := by decide +kernel
theorem zd257_5 : decode zxm257.2.1 5 = .ok (.bipush 24, 2) := by decide +kernel
theorem zd257_7 : decode zxm257.2.1 7 = .ok (.if_icmp .ge 17, 3) := by decide +kernel
theorem zd257_10 : decode zxm257.2.1 10 = .ok (.iload_n 1, 1) := by decide +kernel
theorem zd257_11 : decode zxm257.2.1 11 = .ok (.iload_n 0, 1) := by decide +kernel
theorem zd257_12 : decode zxm257.2.1 12 = .ok (.iload_n 2, 1) := by decide +kernel
theorem zd257_13 : decode zxm257.2.1 13 = .ok (.ishr, 1) := by decide +kernel
theorem zd257_14 : decode zxm257.2.1 14 = .ok (.iconst 1, 1) := by decide +kernel
theorem zd257_15 : decode zxm257.2.1 15 = .ok (.iand, 1) := by decide +kernel
theorem zd257_16 : decode zxm257.2.1 16 = .ok (.iadd, 1) := by decide +kernel
theorem zd257_17 : decode zxm257.2.1 17 = .ok (.istore_n 1, 1) := by decide +kernel
theorem zd257_18 : decode zxm257.2.1 18 = .ok (.iinc 2 1, 3) := by decide +kernel
theorem zd257_21 : decode zxm257.2.1 21 = .ok (.goto (-17), 3) := by decide +kernel
theorem zd257_24 : decode zxm257.2.1 24 = .ok (.iload_n 1, 1) := by decide +kernel
theorem zd257_25 : decode zxm257.2.1 25 = .ok (.ireturn, 1) := by decide +kernel
theorem zsm257  : zn_OK z_TB z_cl z_KX zyT zxm257 (0, 0) (fun va F G => va = [.inl a]) (fun va F G r' F' G' => F' = F ∧ G' = G ∧ r' = some (zq_cnt a 24)) := zn_meth (K := zkM) (FT := z_FT) (MT := z_MT) (n := 1) zxp257 (z_ks13 _ (fun _ h => List.mem_cons_of_mem _ h) _ _ _ _ (fun j r h _ => by cases h)) (fun _ _ => zs_KX_p) (by decide +kernel) (fun va F G h => by first | (obtain ⟨rfl, _⟩ := h; rfl) | (obtain rfl := h; rfl)) rfl fun good va F G hB hret hvret hP => by
  obtain rfl := hP
  have key : ∀ (m q : Nat), 24 - q < m → q ≤ 24 → good 4 [.inl a, .inl (zq_cnt a q), .inl (q : Int)] [] F G := by
    intro m
    induction m with
    | zero =>
      intro q c1 c2
      exfalso; omega
    | succ m ih =>
      intro q c1 c2
      have b1 := zq_cnt_in (t := a) q
      have b2 : zn_ev (fun x y => x &&& y) (zn_ev (fun x y => x >>> (y &&& 31)) a (q : Int)) 1 = 0 ∨ zn_ev (fun x y => x &&& y) (zn_ev (fun x y => x >>> (y &&& 31)) a (q : Int)) 1 = 1 := zs_bit01 (t := a) (i := (q : Int))
      refine zn_ild hB zd257_4 rfl rfl ?_
      refine zn_con hB zd257_5 rfl ?_
      refine zn_cge hB zd257_7 rfl (fun h7 => ?_) (fun h7 => ?_)
      · refine zn_ild hB zd257_24 rfl rfl ?_
        exact hret _ _ _ _ _ zd257_25 trivial ⟨rfl, rfl, (by rw [show q = 24 by omega])⟩
      · refine zn_ild hB zd257_10 rfl rfl ?_
        refine zn_ild hB zd257_11 rfl rfl ?_
        refine zn_ild hB zd257_12 rfl rfl ?_
        refine zn_binv hB zd257_13 rfl ?_
        refine zn_con hB zd257_14 rfl ?_
        refine zn_binv hB zd257_15 rfl ?_
        refine zn_iadd hB zd257_16 (by omega) (by omega) ?_
        refine zn_ist hB zd257_17 rfl rfl rfl ?_
        refine zn_iinc hB zd257_18 rfl rfl (by omega) (by omega) ?_
        refine zn_goto hB zd257_21 rfl ?_
        have h9 := ih (q + 1) (by omega) (by omega)
        rw [show ((q + 1 : Nat) : Int) = (q : Int) + 1 by omega] at h9
        exact h9
  refine zn_con hB zd257_0 rfl ?_
  refine zn_ist hB zd257_1 rfl rfl rfl ?_
  refine zn_con hB zd257_2 rfl ?_
  refine zn_ist hB zd257_3 rfl rfl rfl ?_
  exact key 25 0 (by omega) (by omega)
theorem zd319_0 : decode zxm319.2.1 0 = .ok (.aload_n 0, 1) := by decide +kernel
theorem zd319_1 : decode zxm319.2.1 1 = .ok (.iconst 1, 1) := by decide +kernel
theorem zd319_2 : decode zxm319.2.1 2 = .ok (.putfield 479, 3) := by decide +kernel
theorem zd319_5 : decode zxm319.2.1 5 = .ok (.aload_n 0, 1) := by decide +kernel
theorem zd319_6 : decode zxm319.2.1 6 = .ok (.getfield 7, 3) := by decide +kernel
theorem zd319_9 : decode zxm319.2.1 9 = .ok (.aload_n 0, 1) := by decide +kernel
theorem zd319_10 : decode zxm319.2.1 10 = .ok (.getfield 16, 3) := by decide +kernel
theorem zd319_13 : decode zxm319.2.1 13 = .ok (.invokestatic 134, 3) := by decide +kernel
theorem zd319_16 : decode zxm319.2.1 16 = .ok (.aload_n 0, 1) := by decide +kernel
theorem zd319_17 : decode zxm319.2.1 17 = .ok (.getfield 7, 3) := by decide +kernel
theorem zd319_20 : decode zxm319.2.1 20 = .ok (.bipush 126, 2) := by decide +kernel
theorem zd319_22 : decode zxm319.2.1 22 = .ok (.iaload, 1) := by decide +kernel
theorem zd319_23 : decode zxm319.2.1 23 = .ok (.invokestatic 321, 3) := by decide +kernel
theorem zd319_26 : decode zxm319.2.1 26 = .ok (.ireturn, 1) := by decide +kernel
theorem zsm319  : zn_OK z_TB z_cl z_KX zyT zxm319 (1, 60) (fun va F G => va = [.inr 0] ∧ F = [k] ∧ G = [nw, as, kp]) (fun va F G r' F' G' => r' = some (zq_cnt (nw 126) 24) ∧ F' = [1] ∧ ∃ d : Int → Int, G' = [nw, as, d] ∧ ∀ j, 0 ≤ j → j < 422 → d j = nw j) := zn_meth (K := zkM) (FT := z_FT) (MT := z_MT) (n := 1) zxp319 (z_ks13 _ (fun _ h => List.mem_cons_of_mem _ h) _ _ _ _ (fun j r h _ => by cases h)) (fun _ _ => zs_KX_p) (by decide +kernel) (fun va F G h => by first | (obtain ⟨rfl, _⟩ := h; rfl) | (obtain rfl := h; rfl)) rfl fun good va F G hB hret hvret hP => by
  obtain ⟨rfl, rfl, rfl⟩ := hP
  refine zn_ald hB zd319_0 rfl rfl rfl ?_
  refine zn_con hB zd319_1 rfl ?_
  refine zn_putf hB zd319_2 rfl rfl (fun _ => by omega) rfl ?_
  refine zn_ald hB zd319_5 rfl rfl rfl ?_
  refine zn_getr hB zd319_6 rfl ?_
  refine zn_ald hB zd319_9 rfl rfl rfl ?_
  refine zn_getr hB zd319_10 rfl ?_
  refine zn_it2 hB (zsc13 (nw := nw) (as := as) (kp := kp)) zd319_13 zxt300 rfl ⟨rfl, rfl⟩ (fun r13 F13 G13 hq13 => ?_)
  obtain ⟨rfl, rfl, d, rfl, hd⟩ := hq13
  refine zn_ald hB zd319_16 rfl rfl rfl ?_
  refine zn_getr hB zd319_17 rfl ?_
  refine zn_con hB zd319_20 rfl ?_
  refine zn_iald hB zd319_22 rfl rfl (by omega) (by omega) (fun q22 r22 => ?_)
  refine zn_it1 hB (zsm257 (a := nw 126)) zd319_23 zxt257 rfl rfl (fun r23 F23 G23 hq23 => ?_)
  obtain ⟨rfl, rfl, rfl⟩ := hq23
  exact hret _ _ _ _ _ zd319_26 trivial ⟨rfl, rfl, d, rfl, hd⟩
theorem zd320_0 : decode zxm320.2.1 0 = .ok (.aload_n 0, 1) := by decide +kernel
theorem zd320_1 : decode zxm320.2.1 1 = .ok (.getfield 479, 3) := by decide +kernel
theorem zd320_4 : decode zxm320.2.1 4 = .ok (.ifCond .ne 5, 3) := by decide +kernel
theorem zd320_7 : decode zxm320.2.1 7 = .ok (.iconst 0, 1) := by decide +kernel
theorem zd320_8 : decode zxm320.2.1 8 = .ok (.ireturn, 1) := by decide +kernel
theorem zd320_9 : decode zxm320.2.1 9 = .ok (.aload_n 0, 1) := by decide +kernel
theorem zd320_10 : decode zxm320.2.1 10 = .ok (.getfield 16, 3) := by decide +kernel
theorem zd320_13 : decode zxm320.2.1 13 = .ok (.aload_n 0, 1) := by decide +kernel
theorem zd320_14 : decode zxm320.2.1 14 = .ok (.getfield 7, 3) := by decide +kernel
theorem zd320_17 : decode zxm320.2.1 17 = .ok (.invokestatic 134, 3) := by decide +kernel
theorem zd320_20 : decode zxm320.2.1 20 = .ok (.iconst 1, 1) := by decide +kernel
theorem zd320_21 : decode zxm320.2.1 21 = .ok (.ireturn, 1) := by decide +kernel
theorem zsm320  : zn_OK z_TB z_cl z_KX zyT zxm320 (1, 60) (fun va F G => va = [.inr 0] ∧ F = [k] ∧ G = [nw, as, kp]) (fun va F G r' F' G' => (r' = some 0 ∨ r' = some 1) ∧ F' = [k] ∧ ∃ d : Int → Int, G' = [d, as, kp] ∧ ∀ j, 0 ≤ j → j < 422 → d j = if k ≠ 0 then kp j else nw j) := zn_meth (K := zkM) (FT := z_FT) (MT := z_MT) (n := 1) zxp320 (z_ks13 _ (fun _ h => List.mem_cons_of_mem _ h) _ _ _ _ (fun j r h _ => by cases h)) (fun _ _ => zs_KX_p) (by decide +kernel) (fun va F G h => by first | (obtain ⟨rfl, _⟩ := h; rfl) | (obtain rfl := h; rfl)) rfl fun good va F G hB hret hvret hP => by
  obtain ⟨rfl, rfl, rfl⟩ := hP
  refine zn_ald hB zd320_0 rfl rfl rfl ?_
  refine zn_getf hB zd320_1 rfl rfl (fun q1 r1 => ?_)
  refine zn_zne hB zd320_4 rfl (fun n4 => ?_) (fun n4 => ?_)
  · refine zn_ald hB zd320_9 rfl rfl rfl ?_
    refine zn_getr hB zd320_10 rfl ?_
    refine zn_ald hB zd320_13 rfl rfl rfl ?_
    refine zn_getr hB zd320_14 rfl ?_
    refine zn_it2 hB (zsc31 (nw := nw) (as := as) (kp := kp)) zd320_17 zxt300 rfl ⟨rfl, rfl⟩ (fun r17 F17 G17 hq17 => ?_)
    obtain ⟨rfl, rfl, d, rfl, hd⟩ := hq17
    refine zn_con hB zd320_20 rfl ?_
    exact hret _ _ _ _ _ zd320_21 (by constructor <;> decide) ⟨Or.inr rfl, rfl, d, rfl, fun j j1 j2 => by rw [if_pos n4]; exact hd j j1 j2⟩
  · refine zn_con hB zd320_7 rfl ?_
    exact hret _ _ _ _ _ zd320_8 (by constructor <;> decide) ⟨Or.inl rfl, rfl, nw, rfl, fun j _ _ => by rw [if_neg (fun h => h n4)]⟩
theorem zsx102  : zn_OK z_TB z_cl z_KX zyK zxm102 (0, 0) (fun va F G => va = [.inl a]) (fun va F G r' F' G' => F' = F ∧ G' = G ∧ ∃ v, r' = some v ∧ (0 ≤ a → a ≤ 16777215 → v = zq_cnt a 24)) := zn_meth (K := (z_KF15, z_KC15, z_KL15, z_KT15, [], [], [], none)) (FT := z_FT) (MT := z_MT) (n := 1) zxp102 (z_ks15 _ (fun _ h => List.mem_cons_of_mem _ h) _ _ _ _ (fun j r h _ => by cases h)) (fun _ _ => zs_KX_p) (by decide +kernel) (fun va F G h => by first | (obtain ⟨rfl, _⟩ := h; rfl) | (obtain rfl := h; rfl)) rfl fun good va F G hB hret hvret hP => by
  obtain rfl := hP
  refine zn_ild hB zd102_0 rfl rfl ?_
  refine zn_ild hB zd102_1 rfl rfl ?_
  refine zn_con hB zd102_2 rfl ?_
  refine zn_ushrv hB zd102_3 ?_
  refine zn_con (n := 1431655765) hB zd102_4 (by decide +kernel) ?_
  refine zn_binv hB zd102_7 rfl ?_
  refine zn_binv hB zd102_8 rfl ?_
  refine zn_ist hB zd102_9 rfl rfl rfl ?_
  refine zn_ild hB zd102_10 rfl rfl ?_
  refine zn_con (n := 858993459) hB zd102_11 (by decide +kernel) ?_
  refine zn_binv hB zd102_14 rfl ?_
  refine zn_ild hB zd102_15 rfl rfl ?_
  refine zn_con hB zd102_16 rfl ?_
  refine zn_ushrv hB zd102_17 ?_
  refine zn_con (n := 858993459) hB zd102_18 (by decide +kernel) ?_
  refine zn_binv hB zd102_21 rfl ?_
  refine zn_binv hB zd102_22 rfl ?_
  refine zn_ist hB zd102_23 rfl rfl rfl ?_
  refine zn_ild hB zd102_24 rfl rfl ?_
  refine zn_ild hB zd102_25 rfl rfl ?_
  refine zn_con hB zd102_26 rfl ?_
  refine zn_ushrv hB zd102_27 ?_
  refine zn_binv hB zd102_28 rfl ?_
  refine zn_con (n := 252645135) hB zd102_29 (by decide +kernel) ?_
  refine zn_binv hB zd102_32 rfl ?_
  refine zn_ist hB zd102_33 rfl rfl rfl ?_
  refine zn_ild hB zd102_34 rfl rfl ?_
  refine zn_ild hB zd102_35 rfl rfl ?_
  refine zn_con hB zd102_36 rfl ?_
  refine zn_ushrv hB zd102_38 ?_
  refine zn_binv hB zd102_39 rfl ?_
  refine zn_ist hB zd102_40 rfl rfl rfl ?_
  refine zn_ild hB zd102_41 rfl rfl ?_
  refine zn_ild hB zd102_42 rfl rfl ?_
  refine zn_con hB zd102_43 rfl ?_
  refine zn_ushrv hB zd102_45 ?_
  refine zn_binv hB zd102_46 rfl ?_
  refine zn_ist hB zd102_47 rfl rfl rfl ?_
  refine zn_ild hB zd102_48 rfl rfl ?_
  refine zn_con hB zd102_49 rfl ?_
  refine zn_binv hB zd102_51 rfl ?_
  exact hret _ _ _ _ _ zd102_52 trivial ⟨rfl, rfl, _, rfl, fun h1 h2 => zq_bc h1 h2⟩
theorem zd125_0 : decode zxm125.2.1 0 = .ok (.aload_n 0, 1) := by decide +kernel
theorem zd125_1 : decode zxm125.2.1 1 = .ok (.aload_n 1, 1) := by decide +kernel
theorem zd125_2 : decode zxm125.2.1 2 = .ok (.getfield 9, 3) := by decide +kernel
theorem zd125_5 : decode zxm125.2.1 5 = .ok (.putfield 9, 3) := by decide +kernel
theorem zd125_8 : decode zxm125.2.1 8 = .ok (.aload_n 1, 1) := by decide +kernel
theorem zd125_9 : decode zxm125.2.1 9 = .ok (.getfield 15, 3) := by decide +kernel
theorem zd125_12 : decode zxm125.2.1 12 = .ok (.iconst 0, 1) := by decide +kernel
theorem zd125_13 : decode zxm125.2.1 13 = .ok (.aload_n 0, 1) := by decide +kernel
theorem zd125_14 : decode zxm125.2.1 14 = .ok (.getfield 15, 3) := by decide +kernel
theorem zd125_17 : decode zxm125.2.1 17 = .ok (.iconst 0, 1) := by decide +kernel
theorem zd125_18 : decode zxm125.2.1 18 = .ok (.bipush 24, 2) := by decide +kernel
theorem zd125_20 : decode zxm125.2.1 20 = .ok (.invokestatic 87, 3) := by decide +kernel
theorem zd125_23 : decode zxm125.2.1 23 = .ok (.aload_n 1, 1) := by decide +kernel
theorem zd125_24 : decode zxm125.2.1 24 = .ok (.getfield 19, 3) := by decide +kernel
theorem zd125_27 : decode zxm125.2.1 27 = .ok (.iconst 0, 1) := by decide +kernel
theorem zd125_28 : decode zxm125.2.1 28 = .ok (.aload_n 0, 1) := by decide +kernel
theorem zd125_29 : decode zxm125.2.1 29 = .ok (.getfield 19, 3) := by decide +kernel
theorem zd125_32 : decode zxm125.2.1 32 = .ok (.iconst 0, 1) := by decide +kernel
theorem zd125_33 : decode zxm125.2.1 33 = .ok (.bipush 24, 2) := by decide +kernel
theorem zd125_35 : decode zxm125.2.1 35 = .ok (.invokestatic 87, 3) := by decide +kernel
theorem zd125_38 : decode zxm125.2.1 38 = .ok (.aload_n 1, 1) := by decide +kernel
theorem zd125_39 : decode zxm125.2.1 39 = .ok (.getfield 22, 3) := by decide +kernel
theorem zd125_42 : decode zxm125.2.1 42 = .ok (.iconst 0, 1) := by decide +kernel
theorem zd125_43 : decode zxm125.2.1 43 = .ok (.aload_n 0, 1) := by decide +kernel
theorem zd125_44 : decode zxm125.2.1 44 = .ok (.getfield 22, 3) := by decide +kernel
theorem zd125_47 : decode zxm125.2.1 47 = .ok (.iconst 0, 1) := by decide +kernel
theorem zd125_48 : decode zxm125.2.1 48 = .ok (.bipush 24, 2) := by decide +kernel
theorem zd125_50 : decode zxm125.2.1 50 = .ok (.invokestatic 87, 3) := by decide +kernel
theorem zd125_53 : decode zxm125.2.1 53 = .ok (.aload_n 1, 1) := by decide +kernel
theorem zd125_54 : decode zxm125.2.1 54 = .ok (.getfield 25, 3) := by decide +kernel
theorem zd125_57 : decode zxm125.2.1 57 = .ok (.iconst 0, 1) := by decide +kernel
theorem zd125_58 : decode zxm125.2.1 58 = .ok (.aload_n 0, 1) := by decide +kernel
theorem zd125_59 : decode zxm125.2.1 59 = .ok (.getfield 25, 3) := by decide +kernel
theorem zd125_62 : decode zxm125.2.1 62 = .ok (.iconst 0, 1) := by decide +kernel
theorem zd125_63 : decode zxm125.2.1 63 = .ok (.bipush 24, 2) := by decide +kernel
theorem zd125_65 : decode zxm125.2.1 65 = .ok (.invokestatic 87, 3) := by decide +kernel
theorem zd125_68 : decode zxm125.2.1 68 = .ok (.aload_n 1, 1) := by decide +kernel
theorem zd125_69 : decode zxm125.2.1 69 = .ok (.getfield 28, 3) := by decide +kernel
theorem zd125_72 : decode zxm125.2.1 72 = .ok (.iconst 0, 1) := by decide +kernel
theorem zd125_73 : decode zxm125.2.1 73 = .ok (.aload_n 0, 1) := by decide +kernel
theorem zd125_74 : decode zxm125.2.1 74 = .ok (.getfield 28, 3) := by decide +kernel
theorem zd125_77 : decode zxm125.2.1 77 = .ok (.iconst 0, 1) := by decide +kernel
theorem zd125_78 : decode zxm125.2.1 78 = .ok (.bipush 24, 2) := by decide +kernel
theorem zd125_80 : decode zxm125.2.1 80 = .ok (.invokestatic 87, 3) := by decide +kernel
theorem zd125_83 : decode zxm125.2.1 83 = .ok (.aload_n 0, 1) := by decide +kernel
theorem zd125_84 : decode zxm125.2.1 84 = .ok (.aload_n 1, 1) := by decide +kernel
theorem zd125_85 : decode zxm125.2.1 85 = .ok (.getfield 31, 3) := by decide +kernel
theorem zd125_88 : decode zxm125.2.1 88 = .ok (.putfield 31, 3) := by decide +kernel
theorem zd125_91 : decode zxm125.2.1 91 = .ok (.aload_n 0, 1) := by decide +kernel
theorem zd125_92 : decode zxm125.2.1 92 = .ok (.aload_n 1, 1) := by decide +kernel
theorem zd125_93 : decode zxm125.2.1 93 = .ok (.getfield 34, 3) := by decide +kernel
theorem zd125_96 : decode zxm125.2.1 96 = .ok (.putfield 34, 3) := by decide +kernel
theorem zd125_99 : decode zxm125.2.1 99 = .ok (.aload_n 0, 1) := by decide +kernel
theorem zd125_100 : decode zxm125.2.1 100 = .ok (.aload_n 1, 1) := by decide +kernel
theorem zd125_101 : decode zxm125.2.1 101 = .ok (.getfield 37, 3) := by decide +kernel
theorem zd125_104 : decode zxm125.2.1 104 = .ok (.putfield 37, 3) := by decide +kernel
theorem zd125_107 : decode zxm125.2.1 107 = .ok (.aload_n 0, 1) := by decide +kernel
theorem zd125_108 : decode zxm125.2.1 108 = .ok (.aload_n 1, 1) := by decide +kernel
theorem zd125_109 : decode zxm125.2.1 109 = .ok (.getfield 40, 3) := by decide +kernel
theorem zd125_112 : decode zxm125.2.1 112 = .ok (.putfield 40, 3) := by decide +kernel
theorem zd125_115 : decode zxm125.2.1 115 = .ok (.aload_n 0, 1) := by decide +kernel
theorem zd125_116 : decode zxm125.2.1 116 = .ok (.aload_n 1, 1) := by decide +kernel
theorem zd125_117 : decode zxm125.2.1 117 = .ok (.getfield 43, 3) := by decide +kernel
theorem zd125_120 : decode zxm125.2.1 120 = .ok (.putfield 43, 3) := by decide +kernel
theorem zd125_123 : decode zxm125.2.1 123 = .ok (.aload_n 0, 1) := by decide +kernel
theorem zd125_124 : decode zxm125.2.1 124 = .ok (.aload_n 1, 1) := by decide +kernel
theorem zd125_125 : decode zxm125.2.1 125 = .ok (.getfield 46, 3) := by decide +kernel
theorem zd125_128 : decode zxm125.2.1 128 = .ok (.putfield 46, 3) := by decide +kernel
theorem zd125_131 : decode zxm125.2.1 131 = .ok (.return_, 1) := by decide +kernel
theorem zsky21  : zn_OK z_TB z_cl z_KX zyK zxm125 (1, 60) (fun va F G => va = [.inr 2, .inr 1] ∧ F = [f0, f1, f2, f3, f4, f5, f6, f7, f8, f9, f10, f11, f12, f13, f14, f15, f16] ∧ G = [g0, g1, g2, g3, g4, g5, g6, g7, g8, g9, g10, g11, g12, g13]) (fun va F G r' F' G' => r' = none ∧ F' = [f0, f1, f2, f3, f4, f5, f6, f0, f1, f2, f3, f4, f5, f6, f14, f15, f16] ∧ ∃ d0 d1 d2 d3 d4 : Int → Int, G' = [g0, g1, g2, g3, g4, d0, d1, d2, d3, d4, g10, g11, g12, g13] ∧ (∀ j, 0 ≤ j → j < 24 → d0 j = g0 j) ∧ (∀ j, 0 ≤ j → j < 24 → d1 j = g1 j) ∧ (∀ j, 0 ≤ j → j < 24 → d2 j = g2 j) ∧ (∀ j, 0 ≤ j → j < 24 → d3 j = g3 j) ∧ (∀ j, 0 ≤ j → j < 24 → d4 j = g4 j)) := zn_meth (K := (z_KF8, z_KC8, z_KL8, z_KT8, [], [], [], none)) (FT := z_FT) (MT := z_MT) (n := 2) zxp125 (z_ks8 _ (fun _ h => List.mem_cons_of_mem _ h) _ _ _ _ (fun j r h _ => by cases h)) (fun _ _ => zs_KX_p) (by decide +kernel) (fun va F G h => by first | (obtain ⟨rfl, _⟩ := h; rfl) | (obtain rfl := h; rfl)) rfl fun good va F G hB hret hvret hP => by
  obtain ⟨rfl, rfl, rfl⟩ := hP
  refine zn_ald hB zd125_0 rfl rfl rfl ?_
  refine zn_ald hB zd125_1 rfl rfl rfl ?_
  refine zn_getf hB zd125_2 rfl rfl (fun q2 r2 => ?_)
  refine zn_putf hB zd125_5 rfl rfl (fun h => by cases h) rfl ?_
  refine zn_ald hB zd125_8 rfl rfl rfl ?_
  refine zn_getr hB zd125_9 rfl ?_
  refine zn_con hB zd125_12 rfl ?_
  refine zn_ald hB zd125_13 rfl rfl rfl ?_
  refine zn_getr hB zd125_14 rfl ?_
  refine zn_con hB zd125_17 rfl ?_
  refine zn_con hB zd125_18 rfl ?_
  refine zn_acp hB zd125_20 (x := 0) (List.mem_of_getElem? (i := 10) rfl) rfl rfl rfl rfl (by omega) (by omega) (by omega) (by decide) ?_
  refine zn_ald hB zd125_23 rfl rfl rfl ?_
  refine zn_getr hB zd125_24 rfl ?_
  refine zn_con hB zd125_27 rfl ?_
  refine zn_ald hB zd125_28 rfl rfl rfl ?_
  refine zn_getr hB zd125_29 rfl ?_
  refine zn_con hB zd125_32 rfl ?_
  refine zn_con hB zd125_33 rfl ?_
  refine zn_acp hB zd125_35 (x := 0) (List.mem_of_getElem? (i := 10) rfl) rfl rfl rfl rfl (by omega) (by omega) (by omega) (by decide) ?_
  refine zn_ald hB zd125_38 rfl rfl rfl ?_
  refine zn_getr hB zd125_39 rfl ?_
  refine zn_con hB zd125_42 rfl ?_
  refine zn_ald hB zd125_43 rfl rfl rfl ?_
  refine zn_getr hB zd125_44 rfl ?_
  refine zn_con hB zd125_47 rfl ?_
  refine zn_con hB zd125_48 rfl ?_
  refine zn_acp hB zd125_50 (x := 0) (List.mem_of_getElem? (i := 10) rfl) rfl rfl rfl rfl (by omega) (by omega) (by omega) (by decide) ?_
  refine zn_ald hB zd125_53 rfl rfl rfl ?_
  refine zn_getr hB zd125_54 rfl ?_
  refine zn_con hB zd125_57 rfl ?_
  refine zn_ald hB zd125_58 rfl rfl rfl ?_
  refine zn_getr hB zd125_59 rfl ?_
  refine zn_con hB zd125_62 rfl ?_
  refine zn_con hB zd125_63 rfl ?_
  refine zn_acp hB zd125_65 (x := 0) (List.mem_of_getElem? (i := 10) rfl) rfl rfl rfl rfl (by omega) (by omega) (by omega) (by decide) ?_
  refine zn_ald hB zd125_68 rfl rfl rfl ?_
  refine zn_getr hB zd125_69 rfl ?_
  refine zn_con hB zd125_72 rfl ?_
  refine zn_ald hB zd125_73 rfl rfl rfl ?_
  refine zn_getr hB zd125_74 rfl ?_
  refine zn_con hB zd125_77 rfl ?_
  refine zn_con hB zd125_78 rfl ?_
  refine zn_acp hB zd125_80 (x := 0) (List.mem_of_getElem? (i := 10) rfl) rfl rfl rfl rfl (by omega) (by omega) (by omega) (by decide) ?_
  refine zn_ald hB zd125_83 rfl rfl rfl ?_
  refine zn_ald hB zd125_84 rfl rfl rfl ?_
  refine zn_getf hB zd125_85 rfl rfl (fun q85 r85 => ?_)
  refine zn_putf hB zd125_88 rfl rfl (fun h => by cases h) rfl ?_
  refine zn_ald hB zd125_91 rfl rfl rfl ?_
  refine zn_ald hB zd125_92 rfl rfl rfl ?_
  refine zn_getf hB zd125_93 rfl rfl (fun q93 r93 => ?_)
  refine zn_putf hB zd125_96 rfl rfl (fun h => by cases h) rfl ?_
  refine zn_ald hB zd125_99 rfl rfl rfl ?_
  refine zn_ald hB zd125_100 rfl rfl rfl ?_
  refine zn_getf hB zd125_101 rfl rfl (fun q101 r101 => ?_)
  refine zn_putf hB zd125_104 rfl rfl (fun h => by cases h) rfl ?_
  refine zn_ald hB zd125_107 rfl rfl rfl ?_
  refine zn_ald hB zd125_108 rfl rfl rfl ?_
  refine zn_getf hB zd125_109 rfl rfl (fun q109 r109 => ?_)
  refine zn_putf hB zd125_112 rfl rfl (fun h => by cases h) rfl ?_
  refine zn_ald hB zd125_115 rfl rfl rfl ?_
  refine zn_ald hB zd125_116 rfl rfl rfl ?_
  refine zn_getf hB zd125_117 rfl rfl (fun q117 r117 => ?_)
  refine zn_putf hB zd125_120 rfl rfl (fun h => by cases h) rfl ?_
  refine zn_ald hB zd125_123 rfl rfl rfl ?_
  refine zn_ald hB zd125_124 rfl rfl rfl ?_
  refine zn_getf hB zd125_125 rfl rfl (fun q125 r125 => ?_)
  refine zn_putf hB zd125_128 rfl rfl (fun h => by cases h) rfl ?_
  exact hvret _ _ _ _ zd125_131 trivial ⟨rfl, rfl, _, _, _, _, _, rfl, fun j _ j2 => if_pos j2, fun j _ j2 => if_pos j2, fun j _ j2 => if_pos j2, fun j _ j2 => if_pos j2, fun j _ j2 => if_pos j2⟩
theorem zsky12  : zn_OK z_TB z_cl z_KX zyK zxm125 (1, 60) (fun va F G => va = [.inr 1, .inr 2] ∧ F = [f0, f1, f2, f3, f4, f5, f6, f7, f8, f9, f10, f11, f12, f13, f14, f15, f16] ∧ G = [g0, g1, g2, g3, g4, g5, g6, g7, g8, g9, g10, g11, g12, g13]) (fun va F G r' F' G' => r' = none ∧ F' = [f7, f8, f9, f10, f11, f12, f13, f7, f8, f9, f10, f11, f12, f13, f14, f15, f16] ∧ ∃ d0 d1 d2 d3 d4 : Int → Int, G' = [d0, d1, d2, d3, d4, g5, g6, g7, g8, g9, g10, g11, g12, g13] ∧ (∀ j, 0 ≤ j → j < 24 → d0 j = g5 j) ∧ (∀ j, 0 ≤ j → j < 24 → d1 j = g6 j) ∧ (∀ j, 0 ≤ j → j < 24 → d2 j = g7 j) ∧ (∀ j, 0 ≤ j → j < 24 → d3 j = g8 j) ∧ (∀ j, 0 ≤ j → j < 24 → d4 j = g9 j)) := zn_meth (K := (z_KF8, z_KC8, z_KL8, z_KT8, [], [], [], none)) (FT := z_FT) (MT := z_MT) (n := 2) zxp125 (z_ks8 _ (fun _ h => List.mem_cons_of_mem _ h) _ _ _ _ (fun j r h _ => by cases h)) (fun _ _ => zs_KX_p) (by decide +kernel) (fun va F G h => by first | (obtain ⟨rfl, _⟩ := h; rfl) | (obtain rfl := h; rfl)) rfl fun good va F G hB hret hvret hP => by
  obtain ⟨rfl, rfl, rfl⟩ := hP
  refine zn_ald hB zd125_0 rfl rfl rfl ?_
  refine zn_ald hB zd125_1 rfl rfl rfl ?_
  refine zn_getf hB zd125_2 rfl rfl (fun q2 r2 => ?_)
  refine zn_putf hB zd125_5 rfl rfl (fun h => by cases h) rfl ?_
  refine zn_ald hB zd125_8 rfl rfl rfl ?_
  refine zn_getr hB zd125_9 rfl ?_
  refine zn_con hB zd125_12 rfl ?_
  refine zn_ald hB zd125_13 rfl rfl rfl ?_
  refine zn_getr hB zd125_14 rfl ?_
  refine zn_con hB zd125_17 rfl ?_
  refine zn_con hB zd125_18 rfl ?_
  refine zn_acp hB zd125_20 (x := 0) (List.mem_of_getElem? (i := 10) rfl) rfl rfl rfl rfl (by omega) (by omega) (by omega) (by decide) ?_
  refine zn_ald hB zd125_23 rfl rfl rfl ?_
  refine zn_getr hB zd125_24 rfl ?_
  refine zn_con hB zd125_27 rfl ?_
  refine zn_ald hB zd125_28 rfl rfl rfl ?_
  refine zn_getr hB zd125_29 rfl ?_
  refine zn_con hB zd125_32 rfl ?_
  refine zn_con hB zd125_33 rfl ?_
  refine zn_acp hB zd125_35 (x := 0) (List.mem_of_getElem? (i := 10) rfl) rfl rfl rfl rfl (by omega) (by omega) (by omega) (by decide) ?_
  refine zn_ald hB zd125_38 rfl rfl rfl ?_
  refine zn_getr hB zd125_39 rfl ?_
  refine zn_con hB zd125_42 rfl ?_
  refine zn_ald hB zd125_43 rfl rfl rfl ?_
  refine zn_getr hB zd125_44 rfl ?_
  refine zn_con hB zd125_47 rfl ?_
  refine zn_con hB zd125_48 rfl ?_
  refine zn_acp hB zd125_50 (x := 0) (List.mem_of_getElem? (i := 10) rfl) rfl rfl rfl rfl (by omega) (by omega) (by omega) (by decide) ?_
  refine zn_ald hB zd125_53 rfl rfl rfl ?_
  refine zn_getr hB zd125_54 rfl ?_
  refine zn_con hB zd125_57 rfl ?_
  refine zn_ald hB zd125_58 rfl rfl rfl ?_
  refine zn_getr hB zd125_59 rfl ?_
  refine zn_con hB zd125_62 rfl ?_
  refine zn_con hB zd125_63 rfl ?_
  refine zn_acp hB zd125_65 (x := 0) (List.mem_of_getElem? (i := 10) rfl) rfl rfl rfl rfl (by omega) (by omega) (by omega) (by decide) ?_
  refine zn_ald hB zd125_68 rfl rfl rfl ?_
  refine zn_getr hB zd125_69 rfl ?_
  refine zn_con hB zd125_72 rfl ?_
  refine zn_ald hB zd125_73 rfl rfl rfl ?_
  refine zn_getr hB zd125_74 rfl ?_
  refine zn_con hB zd125_77 rfl ?_
  refine zn_con hB zd125_78 rfl ?_
  refine zn_acp hB zd125_80 (x := 0) (List.mem_of_getElem? (i := 10) rfl) rfl rfl rfl rfl (by omega) (by omega) (by omega) (by decide) ?_
  refine zn_ald hB zd125_83 rfl rfl rfl ?_
  refine zn_ald hB zd125_84 rfl rfl rfl ?_
  refine zn_getf hB zd125_85 rfl rfl (fun q85 r85 => ?_)
  refine zn_putf hB zd125_88 rfl rfl (fun h => by cases h) rfl ?_
  refine zn_ald hB zd125_91 rfl rfl rfl ?_
  refine zn_ald hB zd125_92 rfl rfl rfl ?_
  refine zn_getf hB zd125_93 rfl rfl (fun q93 r93 => ?_)
  refine zn_putf hB zd125_96 rfl rfl (fun h => by cases h) rfl ?_
  refine zn_ald hB zd125_99 rfl rfl rfl ?_
  refine zn_ald hB zd125_100 rfl rfl rfl ?_
  refine zn_getf hB zd125_101 rfl rfl (fun q101 r101 => ?_)
  refine zn_putf hB zd125_104 rfl rfl (fun h => by cases h) rfl ?_
  refine zn_ald hB zd125_107 rfl rfl rfl ?_
  refine zn_ald hB zd125_108 rfl rfl rfl ?_
  refine zn_getf hB zd125_109 rfl rfl (fun q109 r109 => ?_)
  refine zn_putf hB zd125_112 rfl rfl (fun h => by cases h) rfl ?_
  refine zn_ald hB zd125_115 rfl rfl rfl ?_
  refine zn_ald hB zd125_116 rfl rfl rfl ?_
  refine zn_getf hB zd125_117 rfl rfl (fun q117 r117 => ?_)
  refine zn_putf hB zd125_120 rfl rfl (fun h => by cases h) rfl ?_
  refine zn_ald hB zd125_123 rfl rfl rfl ?_
  refine zn_ald hB zd125_124 rfl rfl rfl ?_
  refine zn_getf hB zd125_125 rfl rfl (fun q125 r125 => ?_)
  refine zn_putf hB zd125_128 rfl rfl (fun h => by cases h) rfl ?_
  exact hvret _ _ _ _ zd125_131 trivial ⟨rfl, rfl, _, _, _, _, _, rfl, fun j _ j2 => if_pos j2, fun j _ j2 => if_pos j2, fun j _ j2 => if_pos j2, fun j _ j2 => if_pos j2, fun j _ j2 => if_pos j2⟩
theorem zd192_0 : decode zxm192.2.1 0 = .ok (.aload_n 1, 1) := by decide +kernel
theorem zd192_1 : decode zxm192.2.1 1 = .ok (.getfield 9, 3) := by decide +kernel
theorem zd192_4 : decode zxm192.2.1 4 = .ok (.iconst 0, 1) := by decide +kernel
theorem zd192_5 : decode zxm192.2.1 5 = .ok (.aload_n 0, 1) := by decide +kernel
theorem zd192_6 : decode zxm192.2.1 6 = .ok (.getfield 9, 3) := by decide +kernel
theorem zd192_9 : decode zxm192.2.1 9 = .ok (.iconst 0, 1) := by decide +kernel
theorem zd192_10 : decode zxm192.2.1 10 = .ok (.bipush 12, 2) := by decide +kernel
theorem zd192_12 : decode zxm192.2.1 12 = .ok (.invokestatic 49, 3) := by decide +kernel
theorem zd192_15 : decode zxm192.2.1 15 = .ok (.aload_n 0, 1) := by decide +kernel
theorem zd192_16 : decode zxm192.2.1 16 = .ok (.aload_n 1, 1) := by decide +kernel
theorem zd192_17 : decode zxm192.2.1 17 = .ok (.getfield 15, 3) := by decide +kernel
theorem zd192_20 : decode zxm192.2.1 20 = .ok (.putfield 15, 3) := by decide +kernel
theorem zd192_23 : decode zxm192.2.1 23 = .ok (.aload_n 1, 1) := by decide +kernel
theorem zd192_24 : decode zxm192.2.1 24 = .ok (.getfield 19, 3) := by decide +kernel
theorem zd192_27 : decode zxm192.2.1 27 = .ok (.iconst 0, 1) := by decide +kernel
theorem zd192_28 : decode zxm192.2.1 28 = .ok (.aload_n 0, 1) := by decide +kernel
theorem zd192_29 : decode zxm192.2.1 29 = .ok (.getfield 19, 3) := by decide +kernel
theorem zd192_32 : decode zxm192.2.1 32 = .ok (.iconst 0, 1) := by decide +kernel
theorem zd192_33 : decode zxm192.2.1 33 = .ok (.bipush 6, 2) := by decide +kernel
theorem zd192_35 : decode zxm192.2.1 35 = .ok (.invokestatic 49, 3) := by decide +kernel
theorem zd192_38 : decode zxm192.2.1 38 = .ok (.return_, 1) := by decide +kernel
theorem zsea1413  : zn_OK z_TB z_cl z_KX zyK zxm192 (1, 60) (fun va F G => va = [.inr 14, .inr 13] ∧ F = [f0, f1, f2, f3, f4, f5, f6, f7, f8, f9, f10, f11, f12, f13, f14, f15, f16] ∧ G = [g0, g1, g2, g3, g4, g5, g6, g7, g8, g9, g10, g11, g12, g13]) (fun va F G r' F' G' => r' = none ∧ F' = [f0, f1, f2, f3, f4, f5, f6, f7, f8, f9, f10, f11, f12, f13, f14, f14, f16] ∧ ∃ d5 d6 : Int → Int, G' = [g0, g1, g2, g3, g4, g5, g6, g7, g8, g9, g10, g11, d5, d6] ∧ (∀ j, 0 ≤ j → j < 12 → d5 j = g10 j) ∧ (∀ j, 0 ≤ j → j < 6 → d6 j = g11 j)) := zn_meth (K := (z_KF7, z_KC7, z_KL7, z_KT7, [], [], [], none)) (FT := z_FT) (MT := z_MT) (n := 2) zxp192 (z_ks7 _ (fun _ h => List.mem_cons_of_mem _ h) _ _ _ _ (fun j r h _ => by cases h)) (fun _ _ => zs_KX_p) (by decide +kernel) (fun va F G h => by first | (obtain ⟨rfl, _⟩ := h; rfl) | (obtain rfl := h; rfl)) rfl fun good va F G hB hret hvret hP => by
  obtain ⟨rfl, rfl, rfl⟩ := hP
  refine zn_ald hB zd192_0 rfl rfl rfl ?_
  refine zn_getr hB zd192_1 rfl ?_
  refine zn_con hB zd192_4 rfl ?_
  refine zn_ald hB zd192_5 rfl rfl rfl ?_
  refine zn_getr hB zd192_6 rfl ?_
  refine zn_con hB zd192_9 rfl ?_
  refine zn_con hB zd192_10 rfl ?_
  refine zn_acp hB zd192_12 (x := 0) (List.mem_of_getElem? (i := 8) rfl) rfl rfl rfl rfl (by omega) (by omega) (by omega) (by decide) ?_
  refine zn_ald hB zd192_15 rfl rfl rfl ?_
  refine zn_ald hB zd192_16 rfl rfl rfl ?_
  refine zn_getf hB zd192_17 rfl rfl (fun q17 r17 => ?_)
  refine zn_putf hB zd192_20 rfl rfl (fun h => by cases h) rfl ?_
  refine zn_ald hB zd192_23 rfl rfl rfl ?_
  refine zn_getr hB zd192_24 rfl ?_
  refine zn_con hB zd192_27 rfl ?_
  refine zn_ald hB zd192_28 rfl rfl rfl ?_
  refine zn_getr hB zd192_29 rfl ?_
  refine zn_con hB zd192_32 rfl ?_
  refine zn_con hB zd192_33 rfl ?_
  refine zn_acp hB zd192_35 (x := 0) (List.mem_of_getElem? (i := 8) rfl) rfl rfl rfl rfl (by omega) (by omega) (by omega) (by decide) ?_
  exact hvret _ _ _ _ zd192_38 trivial ⟨rfl, rfl, _, _, rfl, fun j _ j2 => if_pos j2, fun j _ j2 => if_pos j2⟩
theorem zsea1314  : zn_OK z_TB z_cl z_KX zyK zxm192 (1, 60) (fun va F G => va = [.inr 13, .inr 14] ∧ F = [f0, f1, f2, f3, f4, f5, f6, f7, f8, f9, f10, f11, f12, f13, f14, f15, f16] ∧ G = [g0, g1, g2, g3, g4, g5, g6, g7, g8, g9, g10, g11, g12, g13]) (fun va F G r' F' G' => r' = none ∧ F' = [f0, f1, f2, f3, f4, f5, f6, f7, f8, f9, f10, f11, f12, f13, f15, f15, f16] ∧ ∃ d5 d6 : Int → Int, G' = [g0, g1, g2, g3, g4, g5, g6, g7, g8, g9, d5, d6, g12, g13] ∧ (∀ j, 0 ≤ j → j < 12 → d5 j = g12 j) ∧ (∀ j, 0 ≤ j → j < 6 → d6 j = g13 j)) := zn_meth (K := (z_KF7, z_KC7, z_KL7, z_KT7, [], [], [], none)) (FT := z_FT) (MT := z_MT) (n := 2) zxp192 (z_ks7 _ (fun _ h => List.mem_cons_of_mem _ h) _ _ _ _ (fun j r h _ => by cases h)) (fun _ _ => zs_KX_p) (by decide +kernel) (fun va F G h => by first | (obtain ⟨rfl, _⟩ := h; rfl) | (obtain rfl := h; rfl)) rfl fun good va F G hB hret hvret hP => by
  obtain ⟨rfl, rfl, rfl⟩ := hP
  refine zn_ald hB zd192_0 rfl rfl rfl ?_
  refine zn_getr hB zd192_1 rfl ?_
  refine zn_con hB zd192_4 rfl ?_
  refine zn_ald hB zd192_5 rfl rfl rfl ?_
  refine zn_getr hB zd192_6 rfl ?_
  refine zn_con hB zd192_9 rfl ?_
  refine zn_con hB zd192_10 rfl ?_
  refine zn_acp hB zd192_12 (x := 0) (List.mem_of_getElem? (i := 8) rfl) rfl rfl rfl rfl (by omega) (by omega) (by omega) (by decide) ?_
  refine zn_ald hB zd192_15 rfl rfl rfl ?_
  refine zn_ald hB zd192_16 rfl rfl rfl ?_
  refine zn_getf hB zd192_17 rfl rfl (fun q17 r17 => ?_)
  refine zn_putf hB zd192_20 rfl rfl (fun h => by cases h) rfl ?_
  refine zn_ald hB zd192_23 rfl rfl rfl ?_
  refine zn_getr hB zd192_24 rfl ?_
  refine zn_con hB zd192_27 rfl ?_
  refine zn_ald hB zd192_28 rfl rfl rfl ?_
  refine zn_getr hB zd192_29 rfl ?_
  refine zn_con hB zd192_32 rfl ?_
  refine zn_con hB zd192_33 rfl ?_
  refine zn_acp hB zd192_35 (x := 0) (List.mem_of_getElem? (i := 8) rfl) rfl rfl rfl rfl (by omega) (by omega) (by omega) (by decide) ?_
  exact hvret _ _ _ _ zd192_38 trivial ⟨rfl, rfl, _, _, rfl, fun j _ j2 => if_pos j2, fun j _ j2 => if_pos j2⟩
theorem zd191_0 : decode zxm191.2.1 0 = .ok (.aload_n 0, 1) := by decide +kernel
theorem zd191_1 : decode zxm191.2.1 1 = .ok (.getfield 16, 3) := by decide +kernel
theorem zd191_4 : decode zxm191.2.1 4 = .ok (.aload_n 0, 1) := by decide +kernel
theorem zd191_5 : decode zxm191.2.1 5 = .ok (.getfield 10, 3) := by decide +kernel
theorem zd191_8 : decode zxm191.2.1 8 = .ok (.invokevirtual 273, 3) := by decide +kernel
theorem zd191_11 : decode zxm191.2.1 11 = .ok (.aload_n 0, 1) := by decide +kernel
theorem zd191_12 : decode zxm191.2.1 12 = .ok (.getfield 29, 3) := by decide +kernel
theorem zd191_15 : decode zxm191.2.1 15 = .ok (.aload_n 0, 1) := by decide +kernel
theorem zd191_16 : decode zxm191.2.1 16 = .ok (.getfield 25, 3) := by decide +kernel
theorem zd191_19 : decode zxm191.2.1 19 = .ok (.invokevirtual 414, 3) := by decide +kernel
theorem zd191_22 : decode zxm191.2.1 22 = .ok (.aload_n 0, 1) := by decide +kernel
theorem zd191_23 : decode zxm191.2.1 23 = .ok (.iconst 1, 1) := by decide +kernel
theorem zd191_24 : decode zxm191.2.1 24 = .ok (.putfield 32, 3) := by decide +kernel
theorem zd191_27 : decode zxm191.2.1 27 = .ok (.aload_n 0, 1) := by decide +kernel
theorem zd191_28 : decode zxm191.2.1 28 = .ok (.getfield 10, 3) := by decide +kernel
theorem zd191_31 : decode zxm191.2.1 31 = .ok (.getfield 134, 3) := by decide +kernel
theorem zd191_34 : decode zxm191.2.1 34 = .ok (.invokestatic 235, 3) := by decide +kernel
theorem zd191_37 : decode zxm191.2.1 37 = .ok (.ireturn, 1) := by decide +kernel
theorem zsx191  : zn_OK z_TB z_cl z_KX zyK zxm191 (2, 120) (fun va F G => va = [.inr 0] ∧ F = [f0, f1, f2, f3, f4, f5, f6, f7, f8, f9, f10, f11, f12, f13, f14, f15, f16] ∧ G = [g0, g1, g2, g3, g4, g5, g6, g7, g8, g9, g10, g11, g12, g13]) (fun va F G r' F' G' => (∃ v, r' = some v ∧ (0 ≤ f0 → f0 ≤ 16777215 → v = zq_cnt f0 24)) ∧ F' = [f0, f1, f2, f3, f4, f5, f6, f0, f1, f2, f3, f4, f5, f6, f14, f14, 1] ∧ ∃ d0 d1 d2 d3 d4 d5 d6 : Int → Int, G' = [g0, g1, g2, g3, g4, d0, d1, d2, d3, d4, g10, g11, d5, d6] ∧ (∀ j, 0 ≤ j → j < 24 → d0 j = g0 j) ∧ (∀ j, 0 ≤ j → j < 24 → d1 j = g1 j) ∧ (∀ j, 0 ≤ j → j < 24 → d2 j = g2 j) ∧ (∀ j, 0 ≤ j → j < 24 → d3 j = g3 j) ∧ (∀ j, 0 ≤ j → j < 24 → d4 j = g4 j) ∧ (∀ j, 0 ≤ j → j < 12 → d5 j = g10 j) ∧ (∀ j, 0 ≤ j → j < 6 → d6 j = g11 j)) := zn_meth (K := (z_KF0, z_KC0, z_KL0, z_KT0, [], [], [], none)) (FT := z_FT) (MT := z_MT) (n := 1) zxp191 (z_ks0 _ (fun _ h => List.mem_cons_of_mem _ h) _ _ _ _ (fun j r h _ => by cases h)) (fun _ _ => zs_KX_p) (by decide +kernel) (fun va F G h => by first | (obtain ⟨rfl, _⟩ := h; rfl) | (obtain rfl := h; rfl)) rfl fun good va F G hB hret hvret hP => by
  obtain ⟨rfl, rfl, rfl⟩ := hP
  refine zn_ald hB zd191_0 rfl rfl rfl ?_
  refine zn_getr hB zd191_1 rfl ?_
  refine zn_ald hB zd191_4 rfl rfl rfl ?_
  refine zn_getr hB zd191_5 rfl ?_
  refine zn_iv1 hB zsky21 zd191_8 zxt125 rfl ⟨rfl, rfl, rfl⟩ (fun r8 F8 G8 hq8 => ?_)
  obtain ⟨rfl, rfl, d0, d1, d2, d3, d4, rfl, e0, e1, e2, e3, e4⟩ := hq8
  refine zn_ald hB zd191_11 rfl rfl rfl ?_
  refine zn_getr hB zd191_12 rfl ?_
  refine zn_ald hB zd191_15 rfl rfl rfl ?_
  refine zn_getr hB zd191_16 rfl ?_
  refine zn_iv1 hB zsea1413 zd191_19 zxt192 rfl ⟨rfl, rfl, rfl⟩ (fun r19 F19 G19 hq19 => ?_)
  obtain ⟨rfl, rfl, d5, d6, rfl, e5, e6⟩ := hq19
  refine zn_ald hB zd191_22 rfl rfl rfl ?_
  refine zn_con hB zd191_23 rfl ?_
  refine zn_putf hB zd191_24 rfl rfl (fun _ => by omega) rfl ?_
  refine zn_ald hB zd191_27 rfl rfl rfl ?_
  refine zn_getr hB zd191_28 rfl ?_
  refine zn_getf hB zd191_31 rfl rfl (fun q31 r31 => ?_)
  refine zn_it1 hB (zsx102 (a := f0)) zd191_34 zxt102 rfl rfl (fun r34 F34 G34 hq34 => ?_)
  obtain ⟨rfl, rfl, v, rfl, hv⟩ := hq34
  exact hret _ _ _ _ _ zd191_37 trivial ⟨⟨v, rfl, hv⟩, rfl, d0, d1, d2, d3, d4, d5, d6, rfl, e0, e1, e2, e3, e4, e5, e6⟩
theorem zd193_0 : decode zxm193.2.1 0 = .ok (.aload_n 0, 1) := by decide +kernel
theorem zd193_1 : decode zxm193.2.1 1 = .ok (.getfield 32, 3) := by decide +kernel
theorem zd193_4 : decode zxm193.2.1 4 = .ok (.ifCond .ne 5, 3) := by decide +kernel
theorem zd193_7 : decode zxm193.2.1 7 = .ok (.iconst 0, 1) := by decide +kernel
theorem zd193_8 : decode zxm193.2.1 8 = .ok (.ireturn, 1) := by decide +kernel
theorem zd193_9 : decode zxm193.2.1 9 = .ok (.aload_n 0, 1) := by decide +kernel
theorem zd193_10 : decode zxm193.2.1 10 = .ok (.getfield 10, 3) := by decide +kernel
theorem zd193_13 : decode zxm193.2.1 13 = .ok (.aload_n 0, 1) := by decide +kernel
theorem zd193_14 : decode zxm193.2.1 14 = .ok (.getfield 16, 3) := by decide +kernel
theorem zd193_17 : decode zxm193.2.1 17 = .ok (.invokevirtual 273, 3) := by decide +kernel
theorem zd193_20 : decode zxm193.2.1 20 = .ok (.aload_n 0, 1) := by decide +kernel
theorem zd193_21 : decode zxm193.2.1 21 = .ok (.getfield 25, 3) := by decide +kernel
theorem zd193_24 : decode zxm193.2.1 24 = .ok (.aload_n 0, 1) := by decide +kernel
theorem zd193_25 : decode zxm193.2.1 25 = .ok (.getfield 29, 3) := by decide +kernel
theorem zd193_28 : decode zxm193.2.1 28 = .ok (.invokevirtual 414, 3) := by decide +kernel
theorem zd193_31 : decode zxm193.2.1 31 = .ok (.iconst 1, 1) := by decide +kernel
theorem zd193_32 : decode zxm193.2.1 32 = .ok (.ireturn, 1) := by decide +kernel
theorem zsx193  : zn_OK z_TB z_cl z_KX zyK zxm193 (2, 120) (fun va F G => va = [.inr 0] ∧ F = [f0, f1, f2, f3, f4, f5, f6, f7, f8, f9, f10, f11, f12, f13, f14, f15, f16] ∧ G = [g0, g1, g2, g3, g4, g5, g6, g7, g8, g9, g10, g11, g12, g13]) (fun va F G r' F' G' => (r' = some 0 ∨ r' = some 1) ∧ F' = [(if f16 ≠ 0 then f7 else f0), (if f16 ≠ 0 then f8 else f1), (if f16 ≠ 0 then f9 else f2), (if f16 ≠ 0 then f10 else f3), (if f16 ≠ 0 then f11 else f4), (if f16 ≠ 0 then f12 else f5), (if f16 ≠ 0 then f13 else f6), f7, f8, f9, f10, f11, f12, f13, (if f16 ≠ 0 then f15 else f14), f15, f16] ∧ ∃ d0 d1 d2 d3 d4 d5 d6 : Int → Int, G' = [d0, d1, d2, d3, d4, g5, g6, g7, g8, g9, d5, d6, g12, g13] ∧ (∀ j, 0 ≤ j → j < 24 → d0 j = g0 j ∨ d0 j = g5 j) ∧ (∀ j, 0 ≤ j → j < 24 → d1 j = g1 j ∨ d1 j = g6 j) ∧ (∀ j, 0 ≤ j → j < 24 → d2 j = g2 j ∨ d2 j = g7 j) ∧ (∀ j, 0 ≤ j → j < 24 → d3 j = g3 j ∨ d3 j = g8 j) ∧ (∀ j, 0 ≤ j → j < 24 → d4 j = g4 j ∨ d4 j = g9 j) ∧ (∀ j, 0 ≤ j → j < 12 → d5 j = g10 j ∨ d5 j = g12 j) ∧ (∀ j, 0 ≤ j → j < 6 → d6 j = g11 j ∨ d6 j = g13 j)) := zn_meth (K := (z_KF0, z_KC0, z_KL0, z_KT0, [], [], [], none)) (FT := z_FT) (MT := z_MT) (n := 1) zxp193 (z_ks0 _ (fun _ h => List.mem_cons_of_mem _ h) _ _ _ _ (fun j r h _ => by cases h)) (fun _ _ => zs_KX_p) (by decide +kernel) (fun va F G h => by first | (obtain ⟨rfl, _⟩ := h; rfl) | (obtain rfl := h; rfl)) rfl fun good va F G hB hret hvret hP => by
  obtain ⟨rfl, rfl, rfl⟩ := hP
  refine zn_ald hB zd193_0 rfl rfl rfl ?_
  refine zn_getf hB zd193_1 rfl rfl (fun q1 r1 => ?_)
  refine zn_zne hB zd193_4 rfl (fun n4 => ?_) (fun n4 => ?_)
  · refine zn_ald hB zd193_9 rfl rfl rfl ?_
    refine zn_getr hB zd193_10 rfl ?_
    refine zn_ald hB zd193_13 rfl rfl rfl ?_
    refine zn_getr hB zd193_14 rfl ?_
    refine zn_iv1 hB zsky12 zd193_17 zxt125 rfl ⟨rfl, rfl, rfl⟩ (fun r17 F17 G17 hq17 => ?_)
    obtain ⟨rfl, rfl, d0, d1, d2, d3, d4, rfl, e0, e1, e2, e3, e4⟩ := hq17
    refine zn_ald hB zd193_20 rfl rfl rfl ?_
    refine zn_getr hB zd193_21 rfl ?_
    refine zn_ald hB zd193_24 rfl rfl rfl ?_
    refine zn_getr hB zd193_25 rfl ?_
    refine zn_iv1 hB zsea1314 zd193_28 zxt192 rfl ⟨rfl, rfl, rfl⟩ (fun r28 F28 G28 hq28 => ?_)
    obtain ⟨rfl, rfl, d5, d6, rfl, e5, e6⟩ := hq28
    refine zn_con hB zd193_31 rfl ?_
    exact hret _ _ _ _ _ zd193_32 (by constructor <;> decide) ⟨Or.inr rfl, by simp only [if_pos n4], d0, d1, d2, d3, d4, d5, d6, rfl, fun j j1 j2 => Or.inr (e0 j j1 j2), fun j j1 j2 => Or.inr (e1 j j1 j2), fun j j1 j2 => Or.inr (e2 j j1 j2), fun j j1 j2 => Or.inr (e3 j j1 j2), fun j j1 j2 => Or.inr (e4 j j1 j2), fun j j1 j2 => Or.inr (e5 j j1 j2), fun j j1 j2 => Or.inr (e6 j j1 j2)⟩
  · refine zn_con hB zd193_7 rfl ?_
    exact hret _ _ _ _ _ zd193_8 (by constructor <;> decide) ⟨Or.inl rfl, by rw [n4]; rfl, g0, g1, g2, g3, g4, g10, g11, rfl, fun j _ _ => Or.inl rfl, fun j _ _ => Or.inl rfl, fun j _ _ => Or.inl rfl, fun j _ _ => Or.inl rfl, fun j _ _ => Or.inl rfl, fun j _ _ => Or.inl rfl, fun j _ _ => Or.inl rfl⟩
end ZSK
