/-! Methods as functions, and that they do what these do. -/
-- 16: StarTales$Sky.copyFrom(LStarTales$Sky;)V
-- names: 0 Sky('arg', 0), 1 Sky('arg', 1), 2 (0, 24)(1, 1, 1), 3 (0, 24)(0, 1, 1), 4 (0, 24)(1, 1, 2), 5 (0, 24)(0, 1, 2), 6 (0, 24)(1, 1, 3), 7 (0, 24)(0, 1, 3), 8 (0, 24)(1, 1, 4), 9 (0, 24)(0, 1, 4), 10 (0, 24)(1, 1, 5), 11 (0, 24)(0, 1, 5)
-- fields: f0 = 1.told, f1 = 0.told, f2 = 1.hour, f3 = 0.hour, f4 = 1.night, f5 = 0.night, f6 = 1.clouds, f7 = 0.clouds, f8 = 1.sightColumns, f9 = 0.sightColumns, f10 = 1.sightRows, f11 = 0.sightRows, f12 = 1.chance, f13 = 0.chance; arrays: g0 = 2, g1 = 3, g2 = 4, g3 = 5, g4 = 6, g5 = 7, g6 = 8, g7 = 9, g8 = 10, g9 = 11; out: [('f', 1), ('f', 3), ('f', 5), ('f', 7), ('f', 9), ('f', 11), ('f', 13), ('g', 1), ('g', 3), ('g', 5), ('g', 7), ('g', 9)]
abbrev zy16 : zNL := (12, [(0, 1), (1, 1)], [(1, 1, 0, 0), (0, 1, 0, 1), (1, 1, 6, 2), (0, 1, 6, 3), (1, 1, 7, 4), (0, 1, 7, 5), (1, 1, 8, 6), (0, 1, 8, 7), (1, 1, 9, 8), (0, 1, 9, 9), (1, 1, 10, 10), (0, 1, 10, 11), (1, 1, 11, 12), (0, 1, 11, 13)], [(1, 1, 1, 2), (0, 1, 1, 3), (1, 1, 2, 4), (0, 1, 2, 5), (1, 1, 3, 6), (0, 1, 3, 7), (1, 1, 4, 8), (0, 1, 4, 9), (1, 1, 5, 10), (0, 1, 5, 11)], [(2, 0, 24, 0), (3, 0, 24, 1), (4, 0, 24, 2), (5, 0, 24, 3), (6, 0, 24, 4), (7, 0, 24, 5), (8, 0, 24, 6), (9, 0, 24, 7), (10, 0, 24, 8), (11, 0, 24, 9)])
theorem zyw16 : zv_wf zy16 = true := by decide +kernel
theorem zye16 : zv_ek2 zy16 = true := by decide +kernel
def zf16 (f0 : Int) (f1 : Int) (f2 : Int) (f3 : Int) (f4 : Int) (f5 : Int) (f6 : Int) (f7 : Int) (f8 : Int) (f9 : Int) (f10 : Int) (f11 : Int) (f12 : Int) (f13 : Int) (g0 : (Int → Int)) (g1 : (Int → Int)) (g2 : (Int → Int)) (g3 : (Int → Int)) (g4 : (Int → Int)) (g5 : (Int → Int)) (g6 : (Int → Int)) (g7 : (Int → Int)) (g8 : (Int → Int)) (g9 : (Int → Int)) : Option (Int × Int × Int × Int × Int × Int × Int × (Int → Int) × (Int → Int) × (Int → Int) × (Int → Int) × (Int → Int)) := some (f0, f2, f4, f6, f8, f10, f12, (zv_cpy g0 g1 24), (zv_cpy g2 g3 24), (zv_cpy g4 g5 24), (zv_cpy g6 g7 24), (zv_cpy g8 g9 24))
theorem zd125_0 : decode zxm125.2.1 0 = .ok (.aload_n 0, 1) := by decide +kernel
theorem zd125_1 : decode zxm125.2.1 1 = .ok (.aload_n 1, 1) := by decide +kernel
theorem zd125_2 : decode zxm125.2.1 2 = .ok (.getfield 9, 3) := by decide +kernel
theorem zd125_5 : decode zxm125.2.1 5 = .ok (.putfield 9, 3) := by decide +kernel
theorem zd125_8 : decode zxm125.2.1 8 = .ok (.aload_n 1, 1) := by decide +kernel
theorem zd125_9 : decode zxm125.2.1 9 = .ok (.getfield 15, 3) := by decide +kernel
theorem zd125_12 : decode zxm125.2.1 12 = .ok (.iconst 0, 1) := by decide +kernel
theorem zd125_13 : decode zxm125.2.1 13 = .ok (.aload_n 0, 1) := by decide +kernel
theorem zd125_14 : decode zxm125.2.1 14 = .ok (.getfield 15, 3) := by decide +kernel
theorem zd125_17 : decode zxm125.2.1 17 = .ok (.iconst 0, 1) := by decide +kernel
theorem zd125_18 : decode zxm125.2.1 18 = .ok (.bipush 24, 2) := by decide +kernel
theorem zd125_20 : decode zxm125.2.1 20 = .ok (.invokestatic 87, 3) := by decide +kernel
theorem zd125_23 : decode zxm125.2.1 23 = .ok (.aload_n 1, 1) := by decide +kernel
theorem zd125_24 : decode zxm125.2.1 24 = .ok (.getfield 19, 3) := by decide +kernel
theorem zd125_27 : decode zxm125.2.1 27 = .ok (.iconst 0, 1) := by decide +kernel
theorem zd125_28 : decode zxm125.2.1 28 = .ok (.aload_n 0, 1) := by decide +kernel
theorem zd125_29 : decode zxm125.2.1 29 = .ok (.getfield 19, 3) := by decide +kernel
theorem zd125_32 : decode zxm125.2.1 32 = .ok (.iconst 0, 1) := by decide +kernel
theorem zd125_33 : decode zxm125.2.1 33 = .ok (.bipush 24, 2) := by decide +kernel
theorem zd125_35 : decode zxm125.2.1 35 = .ok (.invokestatic 87, 3) := by decide +kernel
theorem zd125_38 : decode zxm125.2.1 38 = .ok (.aload_n 1, 1) := by decide +kernel
theorem zd125_39 : decode zxm125.2.1 39 = .ok (.getfield 22, 3) := by decide +kernel
theorem zd125_42 : decode zxm125.2.1 42 = .ok (.iconst 0, 1) := by decide +kernel
theorem zd125_43 : decode zxm125.2.1 43 = .ok (.aload_n 0, 1) := by decide +kernel
theorem zd125_44 : decode zxm125.2.1 44 = .ok (.getfield 22, 3) := by decide +kernel
theorem zd125_47 : decode zxm125.2.1 47 = .ok (.iconst 0, 1) := by decide +kernel
theorem zd125_48 : decode zxm125.2.1 48 = .ok (.bipush 24, 2) := by decide +kernel
theorem zd125_50 : decode zxm125.2.1 50 = .ok (.invokestatic 87, 3) := by decide +kernel
theorem zd125_53 : decode zxm125.2.1 53 = .ok (.aload_n 1, 1) := by decide +kernel
theorem zd125_54 : decode zxm125.2.1 54 = .ok (.getfield 25, 3) := by decide +kernel
theorem zd125_57 : decode zxm125.2.1 57 = .ok (.iconst 0, 1) := by decide +kernel
theorem zd125_58 : decode zxm125.2.1 58 = .ok (.aload_n 0, 1) := by decide +kernel
theorem zd125_59 : decode zxm125.2.1 59 = .ok (.getfield 25, 3) := by decide +kernel
theorem zd125_62 : decode zxm125.2.1 62 = .ok (.iconst 0, 1) := by decide +kernel
theorem zd125_63 : decode zxm125.2.1 63 = .ok (.bipush 24, 2) := by decide +kernel
theorem zd125_65 : decode zxm125.2.1 65 = .ok (.invokestatic 87, 3) := by decide +kernel
theorem zd125_68 : decode zxm125.2.1 68 = .ok (.aload_n 1, 1) := by decide +kernel
theorem zd125_69 : decode zxm125.2.1 69 = .ok (.getfield 28, 3) := by decide +kernel
theorem zd125_72 : decode zxm125.2.1 72 = .ok (.iconst 0, 1) := by decide +kernel
theorem zd125_73 : decode zxm125.2.1 73 = .ok (.aload_n 0, 1) := by decide +kernel
theorem zd125_74 : decode zxm125.2.1 74 = .ok (.getfield 28, 3) := by decide +kernel
theorem zd125_77 : decode zxm125.2.1 77 = .ok (.iconst 0, 1) := by decide +kernel
theorem zd125_78 : decode zxm125.2.1 78 = .ok (.bipush 24, 2) := by decide +kernel
theorem zd125_80 : decode zxm125.2.1 80 = .ok (.invokestatic 87, 3) := by decide +kernel
theorem zd125_83 : decode zxm125.2.1 83 = .ok (.aload_n 0, 1) := by decide +kernel
theorem zd125_84 : decode zxm125.2.1 84 = .ok (.aload_n 1, 1) := by decide +kernel
theorem zd125_85 : decode zxm125.2.1 85 = .ok (.getfield 31, 3) := by decide +kernel
theorem zd125_88 : decode zxm125.2.1 88 = .ok (.putfield 31, 3) := by decide +kernel
theorem zd125_91 : decode zxm125.2.1 91 = .ok (.aload_n 0, 1) := by decide +kernel
theorem zd125_92 : decode zxm125.2.1 92 = .ok (.aload_n 1, 1) := by decide +kernel
theorem zd125_93 : decode zxm125.2.1 93 = .ok (.getfield 34, 3) := by decide +kernel
theorem zd125_96 : decode zxm125.2.1 96 = .ok (.putfield 34, 3) := by decide +kernel
theorem zd125_99 : decode zxm125.2.1 99 = .ok (.aload_n 0, 1) := by decide +kernel
theorem zd125_100 : decode zxm125.2.1 100 = .ok (.aload_n 1, 1) := by decide +kernel
theorem zd125_101 : decode zxm125.2.1 101 = .ok (.getfield 37, 3) := by decide +kernel
theorem zd125_104 : decode zxm125.2.1 104 = .ok (.putfield 37, 3) := by decide +kernel
theorem zd125_107 : decode zxm125.2.1 107 = .ok (.aload_n 0, 1) := by decide +kernel
theorem zd125_108 : decode zxm125.2.1 108 = .ok (.aload_n 1, 1) := by decide +kernel
theorem zd125_109 : decode zxm125.2.1 109 = .ok (.getfield 40, 3) := by decide +kernel
theorem zd125_112 : decode zxm125.2.1 112 = .ok (.putfield 40, 3) := by decide +kernel
theorem zd125_115 : decode zxm125.2.1 115 = .ok (.aload_n 0, 1) := by decide +kernel
theorem zd125_116 : decode zxm125.2.1 116 = .ok (.aload_n 1, 1) := by decide +kernel
theorem zd125_117 : decode zxm125.2.1 117 = .ok (.getfield 43, 3) := by decide +kernel
theorem zd125_120 : decode zxm125.2.1 120 = .ok (.putfield 43, 3) := by decide +kernel
theorem zd125_123 : decode zxm125.2.1 123 = .ok (.aload_n 0, 1) := by decide +kernel
theorem zd125_124 : decode zxm125.2.1 124 = .ok (.aload_n 1, 1) := by decide +kernel
theorem zd125_125 : decode zxm125.2.1 125 = .ok (.getfield 46, 3) := by decide +kernel
theorem zd125_128 : decode zxm125.2.1 128 = .ok (.putfield 46, 3) := by decide +kernel
theorem zd125_131 : decode zxm125.2.1 131 = .ok (.return_, 1) := by decide +kernel
theorem zt16 {f0 : Int} {f1 : Int} {f2 : Int} {f3 : Int} {f4 : Int} {f5 : Int} {f6 : Int} {f7 : Int} {f8 : Int} {f9 : Int} {f10 : Int} {f11 : Int} {f12 : Int} {f13 : Int} {g0 : (Int → Int)} {g1 : (Int → Int)} {g2 : (Int → Int)} {g3 : (Int → Int)} {g4 : (Int → Int)} {g5 : (Int → Int)} {g6 : (Int → Int)} {g7 : (Int → Int)} {g8 : (Int → Int)} {g9 : (Int → Int)} {o : Int × Int × Int × Int × Int × Int × Int × (Int → Int) × (Int → Int) × (Int → Int) × (Int → Int) × (Int → Int)} (h : zf16 f0 f1 f2 f3 f4 f5 f6 f7 f8 f9 f10 f11 f12 f13 g0 g1 g2 g3 g4 g5 g6 g7 g8 g9 = some o) : zv_Fn z_TB z_cl z_KX zy16 zxm125 (1, 60) [.inr 0, .inr 1] [.inl f0, .inl f1, .inl f2, .inl f3, .inl f4, .inl f5, .inl f6, .inl f7, .inl f8, .inl f9, .inl f10, .inl f11, .inl f12, .inl f13] [g0, g1, g2, g3, g4, g5, g6, g7, g8, g9] none [.inl f0, .inl o.1, .inl f2, .inl o.2.1, .inl f4, .inl o.2.2.1, .inl f6, .inl o.2.2.2.1, .inl f8, .inl o.2.2.2.2.1, .inl f10, .inl o.2.2.2.2.2.1, .inl f12, .inl o.2.2.2.2.2.2.1] [g0, o.2.2.2.2.2.2.2.1, g2, o.2.2.2.2.2.2.2.2.1, g4, o.2.2.2.2.2.2.2.2.2.1, g6, o.2.2.2.2.2.2.2.2.2.2.1, g8, o.2.2.2.2.2.2.2.2.2.2.2] := zv_meth (K := (z_KF8, z_KC8, z_KL8, z_KT8, [], [], [], none)) (FT := z_FT) (MT := z_MT) (n := 2) zxp125 (z_ks8 _ (fun _ h => List.mem_cons_of_mem _ h) _ _ _ _ (fun j r h _ => by cases h)) (fun _ _ => zs_KX_p) zyw16 (fun va F G h => by obtain ⟨rfl, _⟩ := h; rfl) rfl fun good va F G hB hret hvret hP => by
  obtain ⟨rfl, rfl, rfl⟩ := hP
  unfold zf16 at h
  refine zv_ald hB zd125_0 rfl rfl rfl ?_
  refine zv_ald hB zd125_1 rfl rfl rfl ?_
  refine zv_getf hB zd125_2 rfl rfl (fun _ _ => ?_)
  refine zv_putf hB zd125_5 rfl rfl (fun h => by cases h) rfl ?_
  refine zv_ald hB zd125_8 rfl rfl rfl ?_
  refine zv_getr hB zd125_9 rfl ?_
  refine zv_con hB zd125_12 rfl ?_
  refine zv_ald hB zd125_13 rfl rfl rfl ?_
  refine zv_getr hB zd125_14 rfl ?_
  refine zv_con hB zd125_17 rfl ?_
  refine zv_con hB zd125_18 rfl ?_
  refine zv_acp hB zd125_20 (List.mem_of_getElem? (i := 10) rfl) rfl rfl rfl rfl (by decide) (by decide) (by decide) ⟨by decide, by decide⟩ ?_
  refine zv_ald hB zd125_23 rfl rfl rfl ?_
  refine zv_getr hB zd125_24 rfl ?_
  refine zv_con hB zd125_27 rfl ?_
  refine zv_ald hB zd125_28 rfl rfl rfl ?_
  refine zv_getr hB zd125_29 rfl ?_
  refine zv_con hB zd125_32 rfl ?_
  refine zv_con hB zd125_33 rfl ?_
  refine zv_acp hB zd125_35 (List.mem_of_getElem? (i := 10) rfl) rfl rfl rfl rfl (by decide) (by decide) (by decide) ⟨by decide, by decide⟩ ?_
  refine zv_ald hB zd125_38 rfl rfl rfl ?_
  refine zv_getr hB zd125_39 rfl ?_
  refine zv_con hB zd125_42 rfl ?_
  refine zv_ald hB zd125_43 rfl rfl rfl ?_
  refine zv_getr hB zd125_44 rfl ?_
  refine zv_con hB zd125_47 rfl ?_
  refine zv_con hB zd125_48 rfl ?_
  refine zv_acp hB zd125_50 (List.mem_of_getElem? (i := 10) rfl) rfl rfl rfl rfl (by decide) (by decide) (by decide) ⟨by decide, by decide⟩ ?_
  refine zv_ald hB zd125_53 rfl rfl rfl ?_
  refine zv_getr hB zd125_54 rfl ?_
  refine zv_con hB zd125_57 rfl ?_
  refine zv_ald hB zd125_58 rfl rfl rfl ?_
  refine zv_getr hB zd125_59 rfl ?_
  refine zv_con hB zd125_62 rfl ?_
  refine zv_con hB zd125_63 rfl ?_
  refine zv_acp hB zd125_65 (List.mem_of_getElem? (i := 10) rfl) rfl rfl rfl rfl (by decide) (by decide) (by decide) ⟨by decide, by decide⟩ ?_
  refine zv_ald hB zd125_68 rfl rfl rfl ?_
  refine zv_getr hB zd125_69 rfl ?_
  refine zv_con hB zd125_72 rfl ?_
  refine zv_ald hB zd125_73 rfl rfl rfl ?_
  refine zv_getr hB zd125_74 rfl ?_
  refine zv_con hB zd125_77 rfl ?_
  refine zv_con hB zd125_78 rfl ?_
  refine zv_acp hB zd125_80 (List.mem_of_getElem? (i := 10) rfl) rfl rfl rfl rfl (by decide) (by decide) (by decide) ⟨by decide, by decide⟩ ?_
  refine zv_ald hB zd125_83 rfl rfl rfl ?_
  refine zv_ald hB zd125_84 rfl rfl rfl ?_
  refine zv_getf hB zd125_85 rfl rfl (fun _ _ => ?_)
  refine zv_putf hB zd125_88 rfl rfl (fun h => by cases h) rfl ?_
  refine zv_ald hB zd125_91 rfl rfl rfl ?_
  refine zv_ald hB zd125_92 rfl rfl rfl ?_
  refine zv_getf hB zd125_93 rfl rfl (fun _ _ => ?_)
  refine zv_putf hB zd125_96 rfl rfl (fun h => by cases h) rfl ?_
  refine zv_ald hB zd125_99 rfl rfl rfl ?_
  refine zv_ald hB zd125_100 rfl rfl rfl ?_
  refine zv_getf hB zd125_101 rfl rfl (fun _ _ => ?_)
  refine zv_putf hB zd125_104 rfl rfl (fun h => by cases h) rfl ?_
  refine zv_ald hB zd125_107 rfl rfl rfl ?_
  refine zv_ald hB zd125_108 rfl rfl rfl ?_
  refine zv_getf hB zd125_109 rfl rfl (fun _ _ => ?_)
  refine zv_putf hB zd125_112 rfl rfl (fun h => by cases h) rfl ?_
  refine zv_ald hB zd125_115 rfl rfl rfl ?_
  refine zv_ald hB zd125_116 rfl rfl rfl ?_
  refine zv_getf hB zd125_117 rfl rfl (fun _ _ => ?_)
  refine zv_putf hB zd125_120 rfl rfl (fun h => by cases h) rfl ?_
  refine zv_ald hB zd125_123 rfl rfl rfl ?_
  refine zv_ald hB zd125_124 rfl rfl rfl ?_
  refine zv_getf hB zd125_125 rfl rfl (fun _ _ => ?_)
  refine zv_putf hB zd125_128 rfl rfl (fun h => by cases h) rfl ?_
  have hw := Option.some.inj h
  subst hw
  exact hvret _ _ _ _ zd125_131 trivial ⟨rfl, rfl, rfl⟩
-- 17: StarTales.seed(I)Z
-- names: 0 StarTales('arg', 0), 1 Sky(0, 0, 0)
-- fields: f0 = 1.chance; arrays: ; out: [('ret', None), ('f', 0)]
abbrev zy17 : zNL := (2, [(0, 0), (1, 1)], [(1, 1, 11, 0)], [(0, 0, 0, 1)], [])
theorem zyw17 : zv_wf zy17 = true := by decide +kernel
theorem zye17 : zv_ek2 zy17 = true := by decide +kernel
def zf17 (x1 : Int) (f0 : Int) : Option (Int × Int) := (zf1 x1 0 65535).bind fun r1 => (if r1 = 0 then (some (0, f0)) else (some (1, x1)))
theorem zd190_0 : decode zxm190.2.1 0 = .ok (.iload_n 1, 1) := by decide +kernel
theorem zd190_1 : decode zxm190.2.1 1 = .ok (.iconst 0, 1) := by decide +kernel
theorem zd190_2 : decode zxm190.2.1 2 = .ok (.ldc_w 410, 3) := by decide +kernel
theorem zd190_5 : decode zxm190.2.1 5 = .ok (.invokestatic 126, 3) := by decide +kernel
theorem zd190_8 : decode zxm190.2.1 8 = .ok (.ifCond .ne 5, 3) := by decide +kernel
theorem zd190_11 : decode zxm190.2.1 11 = .ok (.iconst 0, 1) := by decide +kernel
theorem zd190_12 : decode zxm190.2.1 12 = .ok (.ireturn, 1) := by decide +kernel
theorem zd190_13 : decode zxm190.2.1 13 = .ok (.aload_n 0, 1) := by decide +kernel
theorem zd190_14 : decode zxm190.2.1 14 = .ok (.getfield 10, 3) := by decide +kernel
theorem zd190_17 : decode zxm190.2.1 17 = .ok (.iload_n 1, 1) := by decide +kernel
theorem zd190_18 : decode zxm190.2.1 18 = .ok (.putfield 411, 3) := by decide +kernel
theorem zd190_21 : decode zxm190.2.1 21 = .ok (.iconst 1, 1) := by decide +kernel
theorem zd190_22 : decode zxm190.2.1 22 = .ok (.ireturn, 1) := by decide +kernel
theorem zt17 {x1 : Int} {f0 : Int} {o : Int × Int} (h : zf17 x1 f0 = some o) : zv_Fn z_TB z_cl z_KX zy17 zxm190 (1, 60) [.inr 0, .inl x1] [.inl f0] [] (some o.1) [.inl o.2] [] := zv_meth (K := (z_KF0, z_KC0, z_KL0, z_KT0, [], [], [], none)) (FT := z_FT) (MT := z_MT) (n := 2) zxp190 (z_ks0 _ (fun _ h => List.mem_cons_of_mem _ h) _ _ _ _ (fun j r h _ => by cases h)) (fun _ _ => zs_KX_p) zyw17 (fun va F G h => by obtain ⟨rfl, _⟩ := h; rfl) rfl fun good va F G hB hret hvret hP => by
  obtain ⟨rfl, rfl, rfl⟩ := hP
  unfold zf17 at h
  refine zv_ild hB zd190_0 rfl rfl ?_
  refine zv_con hB zd190_1 rfl ?_
  refine zv_con (n := 65535) hB zd190_2 (by decide +kernel) ?_
  obtain ⟨r1, hr1, h⟩ := zi_bind h
  refine zv_cs hB (show zv_Fn _ _ _ zy17 _ _ [.inl x1, .inl 0, .inl 65535] [.inl f0] [] (some r1) [.inl f0] [] from zv_emb (F := [.inl f0]) (G := []) zyw1 zyw17 zye17 (by decide +kernel : zv_ek zy1 zy17 [] [] [] = true) (zt1 hr1) trivial trivial) zd190_5 zxt15 rfl (by decide) (by decide) rfl ?_
  refine zv_zne hB zd190_8 rfl (fun hc2 => ?_) (fun hc2 => ?_)
  · rw [if_neg hc2] at h
    refine zv_ald hB zd190_13 rfl rfl rfl ?_
    refine zv_getr hB zd190_14 rfl ?_
    refine zv_ild hB zd190_17 rfl rfl ?_
    refine zv_putf hB zd190_18 rfl rfl (fun h => by cases h) rfl ?_
    refine zv_con hB zd190_21 rfl ?_
    have hw := Option.some.inj h
    subst hw
    exact hret _ _ _ _ _ zd190_22 (by constructor <;> decide) ⟨rfl, rfl, rfl⟩
  · rw [if_pos hc2] at h
    refine zv_con hB zd190_11 rfl ?_
    have hw := Option.some.inj h
    subst hw
    exact hret _ _ _ _ _ zd190_12 (by constructor <;> decide) ⟨rfl, rfl, rfl⟩
-- 18: StarTalesModel.types(I)V
-- names: 0 StarTalesModel('arg', 0), 1 (1, 220)(0, 12, 3)
-- fields: f0 = 0.taped; arrays: g0 = 1; out: [('f', 0), ('g', 0)]
abbrev zy18 : zNL := (2, [(0, 12)], [(0, 12, 4, 0)], [(0, 12, 3, 1)], [(1, 1, 220, 0)])
theorem zyw18 : zv_wf zy18 = true := by decide +kernel
theorem zye18 : zv_ek2 zy18 = true := by decide +kernel
def zf18_l0_b (x1 : Int) (rec : Int → Int → (Int → Int) → Option (Int × (Int → Int))) (x2 : Int) (f0 : Int) (g0 : (Int → Int)) : Option (Int × (Int → Int)) := if x2 < 0 then (some (f0, g0)) else (cond (zi_ix f0 220) (rec (zi_w (x2 + (-1))) (zi_w (f0 + 1)) (zv_up g0 f0 (zi_by (zi_by (zi_shr x1 (zi_w (8 * x2))))))) none)
def zf18_l0 (x1 : Int) : Nat → Int → Int → (Int → Int) → Option (Int × (Int → Int))
  | 0, _, _, _ => none
  | n + 1, x2, f0, g0 => zf18_l0_b x1 (zf18_l0 x1 n) x2 f0 g0
def zf18 (x1 : Int) (f0 : Int) (g0 : (Int → Int)) : Option (Int × (Int → Int)) := (zf18_l0 x1 zi_fu 3 f0 g0).bind fun q3 => (some (q3.1, q3.2))
theorem zd214_0 : decode zxm214.2.1 0 = .ok (.iconst 3, 1) := by decide +kernel
theorem zd214_1 : decode zxm214.2.1 1 = .ok (.istore_n 2, 1) := by decide +kernel
theorem zd214_2 : decode zxm214.2.1 2 = .ok (.iload_n 2, 1) := by decide +kernel
theorem zd214_3 : decode zxm214.2.1 3 = .ok (.ifCond .lt 35, 3) := by decide +kernel
theorem zd214_6 : decode zxm214.2.1 6 = .ok (.aload_n 0, 1) := by decide +kernel
theorem zd214_7 : decode zxm214.2.1 7 = .ok (.getfield 19, 3) := by decide +kernel
theorem zd214_10 : decode zxm214.2.1 10 = .ok (.aload_n 0, 1) := by decide +kernel
theorem zd214_11 : decode zxm214.2.1 11 = .ok (.getfield 168, 3) := by decide +kernel
theorem zd214_14 : decode zxm214.2.1 14 = .ok (.iload_n 1, 1) := by decide +kernel
theorem zd214_15 : decode zxm214.2.1 15 = .ok (.bipush 8, 2) := by decide +kernel
theorem zd214_17 : decode zxm214.2.1 17 = .ok (.iload_n 2, 1) := by decide +kernel
theorem zd214_18 : decode zxm214.2.1 18 = .ok (.imul, 1) := by decide +kernel
theorem zd214_19 : decode zxm214.2.1 19 = .ok (.ishr, 1) := by decide +kernel
theorem zd214_20 : decode zxm214.2.1 20 = .ok (.i2b, 1) := by decide +kernel
theorem zd214_21 : decode zxm214.2.1 21 = .ok (.bastore, 1) := by decide +kernel
theorem zd214_22 : decode zxm214.2.1 22 = .ok (.aload_n 0, 1) := by decide +kernel
theorem zd214_23 : decode zxm214.2.1 23 = .ok (.aload_n 0, 1) := by decide +kernel
theorem zd214_24 : decode zxm214.2.1 24 = .ok (.getfield 168, 3) := by decide +kernel
theorem zd214_27 : decode zxm214.2.1 27 = .ok (.iconst 1, 1) := by decide +kernel
theorem zd214_28 : decode zxm214.2.1 28 = .ok (.iadd, 1) := by decide +kernel
theorem zd214_29 : decode zxm214.2.1 29 = .ok (.putfield 168, 3) := by decide +kernel
theorem zd214_32 : decode zxm214.2.1 32 = .ok (.iinc 2 (-1), 3) := by decide +kernel
theorem zd214_35 : decode zxm214.2.1 35 = .ok (.goto (-33), 3) := by decide +kernel
theorem zd214_38 : decode zxm214.2.1 38 = .ok (.return_, 1) := by decide +kernel
theorem zt18 {x1 : Int} {f0 : Int} {g0 : (Int → Int)} {o : Int × (Int → Int)} (h : zf18 x1 f0 g0 = some o) : zv_Fn z_TB z_cl z_KX zy18 zxm214 (0, 0) [.inr 0, .inl x1] [.inl f0] [g0] none [.inl o.1] [o.2] := zv_meth (K := (z_KF13, z_KC13, z_KL13, z_KT13, [], [], [], none)) (FT := z_FT) (MT := z_MT) (n := 2) zxp214 (z_ks13 _ (fun _ h => List.mem_cons_of_mem _ h) _ _ _ _ (fun j r h _ => by cases h)) (fun _ _ => zs_KX_p) zyw18 (fun va F G h => by obtain ⟨rfl, _⟩ := h; rfl) rfl fun good va F G hB hret hvret hP => by
  obtain ⟨rfl, rfl, rfl⟩ := hP
  have l0 : ∀ (n : Nat) (x1 : Int) (x2 : Int) (f0 : Int) (g0 : (Int → Int)) (q : Int × (Int → Int)), zf18_l0 x1 n x2 f0 g0 = some q → (good 38 [.inr 1000, .inr 1000, .inr 1000] [] [.inl q.1] [q.2]) → good 2 [.inr 0, .inl x1, .inl x2] [] [.inl f0] [g0] := by
    intro n
    induction n with
    | zero => intro x1 x2 f0 g0 q h; exact absurd (show none = some q from h) (fun h => by cases h)
    | succ n ih =>
      intro x1 x2 f0 g0 q h hK
      replace h : zf18_l0_b x1 (zf18_l0 x1 n) x2 f0 g0 = some q := h
      unfold zf18_l0_b at h
      refine zv_ild hB zd214_2 rfl rfl ?_
      refine zv_zlt hB zd214_3 rfl (fun hc1 => ?_) (fun hc1 => ?_)
      · rw [if_pos hc1] at h
        have hq := Option.some.inj h
        subst hq
        refine zv_wk hB (L' := [.inr 1000, .inr 1000, .inr 1000]) (F' := [.inl f0]) ⟨fun h => (Nat.lt_irrefl 1000 h).elim, fun h => (Nat.lt_irrefl 1000 h).elim, fun h => (Nat.lt_irrefl 1000 h).elim, trivial⟩ ⟨fun _ => rfl, trivial⟩ ?_
        exact hK
      · rw [if_neg (Int.not_lt.mpr hc1)] at h
        refine zv_ald hB zd214_6 rfl rfl rfl ?_
        refine zv_getr hB zd214_7 rfl ?_
        refine zv_ald hB zd214_10 rfl rfl rfl ?_
        refine zv_getf hB zd214_11 rfl rfl (fun _ _ => ?_)
        refine zv_ild hB zd214_14 rfl rfl ?_
        refine zv_con hB zd214_15 rfl ?_
        refine zv_ild hB zd214_17 rfl rfl ?_
        refine zv_mulw hB zd214_18 ?_
        refine zv_shrw hB zd214_19 ?_
        refine zv_i2b hB zd214_20 ?_
        obtain ⟨c2, h⟩ := zi_if h
        refine zv_bast hB zd214_21 rfl rfl (zi_ix_ok c2).1 (zi_ix_ok c2).2 ?_
        refine zv_ald hB zd214_22 rfl rfl rfl ?_
        refine zv_ald hB zd214_23 rfl rfl rfl ?_
        refine zv_getf hB zd214_24 rfl rfl (fun _ _ => ?_)
        refine zv_con hB zd214_27 rfl ?_
        refine zv_addw hB zd214_28 ?_
        refine zv_putf hB zd214_29 rfl rfl (fun h => by cases h) rfl ?_
        refine zv_iincw hB zd214_32 rfl rfl ?_
        refine zv_goto hB zd214_35 rfl ?_
        exact ih _ _ _ _ q h hK
  unfold zf18 at h
  refine zv_con hB zd214_0 rfl ?_
  refine zv_ist hB zd214_1 rfl rfl rfl ?_
  obtain ⟨q3, hq3, h⟩ := zi_bind h
  refine l0 _ _ _ _ _ q3 hq3 ?_
  show good 38 [.inr 1000, .inr 1000, .inr 1000] [] [.inl q3.1] [q3.2]
  have hw := Option.some.inj h
  subst hw
  exact hvret _ _ _ _ zd214_38 trivial ⟨rfl, rfl, rfl⟩
-- 19: StarTalesModel.feed(IIIII)I
-- names: 0 StarTalesModel('arg', 0), 1 (1, 220)(0, 12, 3)
-- fields: f0 = 0.taped; arrays: g0 = 1; out: [('ret', None), ('f', 0), ('g', 0)]
abbrev zy19 : zNL := (2, [(0, 12)], [(0, 12, 4, 0)], [(0, 12, 3, 1)], [(1, 1, 220, 0)])
theorem zyw19 : zv_wf zy19 = true := by decide +kernel
theorem zye19 : zv_ek2 zy19 = true := by decide +kernel
def zf19 (x1 : Int) (x2 : Int) (x3 : Int) (x4 : Int) (x5 : Int) (f0 : Int) (g0 : (Int → Int)) : Option (Int × Int × (Int → Int)) := if 220 < (zi_w (f0 + 20)) then (some ((-1), f0, g0)) else ((zf18 x1 f0 g0).bind fun r2 => ((zf18 x2 r2.1 r2.2).bind fun r3 => ((zf18 x3 r3.1 r3.2).bind fun r4 => ((zf18 x4 r4.1 r4.2).bind fun r5 => ((zf18 x5 r5.1 r5.2).bind fun r6 => (some (r6.1, r6.1, r6.2)))))))
theorem zd213_0 : decode zxm213.2.1 0 = .ok (.aload_n 0, 1) := by decide +kernel
theorem zd213_1 : decode zxm213.2.1 1 = .ok (.getfield 168, 3) := by decide +kernel
theorem zd213_4 : decode zxm213.2.1 4 = .ok (.bipush 20, 2) := by decide +kernel
theorem zd213_6 : decode zxm213.2.1 6 = .ok (.iadd, 1) := by decide +kernel
theorem zd213_7 : decode zxm213.2.1 7 = .ok (.sipush 220, 3) := by decide +kernel
theorem zd213_10 : decode zxm213.2.1 10 = .ok (.if_icmp .le 5, 3) := by decide +kernel
theorem zd213_13 : decode zxm213.2.1 13 = .ok (.iconst (-1), 1) := by decide +kernel
theorem zd213_14 : decode zxm213.2.1 14 = .ok (.ireturn, 1) := by decide +kernel
theorem zd213_15 : decode zxm213.2.1 15 = .ok (.aload_n 0, 1) := by decide +kernel
theorem zd213_16 : decode zxm213.2.1 16 = .ok (.iload_n 1, 1) := by decide +kernel
theorem zd213_17 : decode zxm213.2.1 17 = .ok (.invokevirtual 172, 3) := by decide +kernel
theorem zd213_20 : decode zxm213.2.1 20 = .ok (.aload_n 0, 1) := by decide +kernel
theorem zd213_21 : decode zxm213.2.1 21 = .ok (.iload_n 2, 1) := by decide +kernel
theorem zd213_22 : decode zxm213.2.1 22 = .ok (.invokevirtual 172, 3) := by decide +kernel
theorem zd213_25 : decode zxm213.2.1 25 = .ok (.aload_n 0, 1) := by decide +kernel
theorem zd213_26 : decode zxm213.2.1 26 = .ok (.iload_n 3, 1) := by decide +kernel
theorem zd213_27 : decode zxm213.2.1 27 = .ok (.invokevirtual 172, 3) := by decide +kernel
theorem zd213_30 : decode zxm213.2.1 30 = .ok (.aload_n 0, 1) := by decide +kernel
theorem zd213_31 : decode zxm213.2.1 31 = .ok (.iload 4, 2) := by decide +kernel
theorem zd213_33 : decode zxm213.2.1 33 = .ok (.invokevirtual 172, 3) := by decide +kernel
theorem zd213_36 : decode zxm213.2.1 36 = .ok (.aload_n 0, 1) := by decide +kernel
theorem zd213_37 : decode zxm213.2.1 37 = .ok (.iload 5, 2) := by decide +kernel
theorem zd213_39 : decode zxm213.2.1 39 = .ok (.invokevirtual 172, 3) := by decide +kernel
theorem zd213_42 : decode zxm213.2.1 42 = .ok (.aload_n 0, 1) := by decide +kernel
theorem zd213_43 : decode zxm213.2.1 43 = .ok (.getfield 168, 3) := by decide +kernel
theorem zd213_46 : decode zxm213.2.1 46 = .ok (.ireturn, 1) := by decide +kernel
theorem zt19 {x1 : Int} {x2 : Int} {x3 : Int} {x4 : Int} {x5 : Int} {f0 : Int} {g0 : (Int → Int)} {o : Int × Int × (Int → Int)} (h : zf19 x1 x2 x3 x4 x5 f0 g0 = some o) : zv_Fn z_TB z_cl z_KX zy19 zxm213 (1, 60) [.inr 0, .inl x1, .inl x2, .inl x3, .inl x4, .inl x5] [.inl f0] [g0] (some o.1) [.inl o.2.1] [o.2.2] := zv_meth (K := (z_KF13, z_KC13, z_KL13, z_KT13, [], [], [], none)) (FT := z_FT) (MT := z_MT) (n := 6) zxp213 (z_ks13 _ (fun _ h => List.mem_cons_of_mem _ h) _ _ _ _ (fun j r h _ => by cases h)) (fun _ _ => zs_KX_p) zyw19 (fun va F G h => by obtain ⟨rfl, _⟩ := h; rfl) rfl fun good va F G hB hret hvret hP => by
  obtain ⟨rfl, rfl, rfl⟩ := hP
  unfold zf19 at h
  refine zv_ald hB zd213_0 rfl rfl rfl ?_
  refine zv_getf hB zd213_1 rfl rfl (fun _ _ => ?_)
  refine zv_con hB zd213_4 rfl ?_
  refine zv_addw hB zd213_6 ?_
  refine zv_con hB zd213_7 rfl ?_
  refine zv_cle hB zd213_10 rfl (fun hc1 => ?_) (fun hc1 => ?_)
  · rw [if_neg (Int.not_lt.mpr hc1)] at h
    refine zv_ald hB zd213_15 rfl rfl rfl ?_
    refine zv_ild hB zd213_16 rfl rfl ?_
    obtain ⟨r2, hr2, h⟩ := zi_bind h
    refine zv_cv hB (show zv_Fn _ _ _ zy19 _ _ [.inr 0, .inl x1] [.inl f0] [g0] none [.inl r2.1] [r2.2] from zv_emb (F := [.inl f0]) (G := [g0]) zyw18 zyw19 zye19 (by decide +kernel : zv_ek zy18 zy19 [0, 1] [0] [0] = true) (zt18 hr2) ⟨⟨_, rfl, fun _ => rfl⟩, trivial⟩ ⟨rfl, trivial⟩) zd213_17 zxt214 rfl (by decide) (by decide) rfl ?_
    refine zv_ald hB zd213_20 rfl rfl rfl ?_
    refine zv_ild hB zd213_21 rfl rfl ?_
    obtain ⟨r3, hr3, h⟩ := zi_bind h
    refine zv_cv hB (show zv_Fn _ _ _ zy19 _ _ [.inr 0, .inl x2] [.inl r2.1] [r2.2] none [.inl r3.1] [r3.2] from zv_emb (F := [.inl r2.1]) (G := [r2.2]) zyw18 zyw19 zye19 (by decide +kernel : zv_ek zy18 zy19 [0, 1] [0] [0] = true) (zt18 hr3) ⟨⟨_, rfl, fun _ => rfl⟩, trivial⟩ ⟨rfl, trivial⟩) zd213_22 zxt214 rfl (by decide) (by decide) rfl ?_
    refine zv_ald hB zd213_25 rfl rfl rfl ?_
    refine zv_ild hB zd213_26 rfl rfl ?_
    obtain ⟨r4, hr4, h⟩ := zi_bind h
    refine zv_cv hB (show zv_Fn _ _ _ zy19 _ _ [.inr 0, .inl x3] [.inl r3.1] [r3.2] none [.inl r4.1] [r4.2] from zv_emb (F := [.inl r3.1]) (G := [r3.2]) zyw18 zyw19 zye19 (by decide +kernel : zv_ek zy18 zy19 [0, 1] [0] [0] = true) (zt18 hr4) ⟨⟨_, rfl, fun _ => rfl⟩, trivial⟩ ⟨rfl, trivial⟩) zd213_27 zxt214 rfl (by decide) (by decide) rfl ?_
    refine zv_ald hB zd213_30 rfl rfl rfl ?_
    refine zv_ild hB zd213_31 rfl rfl ?_
    obtain ⟨r5, hr5, h⟩ := zi_bind h
    refine zv_cv hB (show zv_Fn _ _ _ zy19 _ _ [.inr 0, .inl x4] [.inl r4.1] [r4.2] none [.inl r5.1] [r5.2] from zv_emb (F := [.inl r4.1]) (G := [r4.2]) zyw18 zyw19 zye19 (by decide +kernel : zv_ek zy18 zy19 [0, 1] [0] [0] = true) (zt18 hr5) ⟨⟨_, rfl, fun _ => rfl⟩, trivial⟩ ⟨rfl, trivial⟩) zd213_33 zxt214 rfl (by decide) (by decide) rfl ?_
    refine zv_ald hB zd213_36 rfl rfl rfl ?_
    refine zv_ild hB zd213_37 rfl rfl ?_
    obtain ⟨r6, hr6, h⟩ := zi_bind h
    refine zv_cv hB (show zv_Fn _ _ _ zy19 _ _ [.inr 0, .inl x5] [.inl r5.1] [r5.2] none [.inl r6.1] [r6.2] from zv_emb (F := [.inl r5.1]) (G := [r5.2]) zyw18 zyw19 zye19 (by decide +kernel : zv_ek zy18 zy19 [0, 1] [0] [0] = true) (zt18 hr6) ⟨⟨_, rfl, fun _ => rfl⟩, trivial⟩ ⟨rfl, trivial⟩) zd213_39 zxt214 rfl (by decide) (by decide) rfl ?_
    refine zv_ald hB zd213_42 rfl rfl rfl ?_
    refine zv_getf hB zd213_43 rfl rfl (fun _ _ => ?_)
    have hw := Option.some.inj h
    subst hw
    exact hret _ _ _ _ _ zd213_46 (by trivial) ⟨rfl, rfl, rfl⟩
  · rw [if_pos hc1] at h
    refine zv_con hB zd213_13 rfl ?_
    have hw := Option.some.inj h
    subst hw
    exact hret _ _ _ _ _ zd213_14 (by trivial) ⟨rfl, rfl, rfl⟩
