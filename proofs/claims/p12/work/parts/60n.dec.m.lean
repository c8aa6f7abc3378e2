/-! 60n.dec, 60o.dec -/
section
/-! Methods as functions, and that they do what these do. -/
/-! X_seen (II)I -/
-- names: 0 StarTales('arg', 0), 1 View(0, 0, 12), 2 Sky(0, 0, 0), 3 Law(0, 0, 7), 4 (0, 24)(1, 7, 8), 5 (0, 13)(3, 4, 12), 6 (0, 24)(2, 1, 1), 7 (0, 24)(2, 1, 2), 8 (0, 24)(2, 1, 3), 9 (0, 14)(3, 4, 3), 10 (0, 14)(3, 4, 5), 11 (0, 14)(3, 4, 6), 12 (0, 200)(3, 4, 0), 13 (0, 40)(3, 4, 13), 14 (0, 200)(3, 4, 1)
-- fields: f0 = 0.ruling_, f1 = 1.sky_, f2 = 1.law_, f3 = 1.starsAsked_, f4 = 1.x_, f5 = 1.y_, f6 = 2.hour_, f7 = 2.night_, f8 = 1.shown_, f9 = 2.told_, f10 = 2.sightColumns_, f11 = 2.sightRows_, f12 = 2.clouds_, f13 = 3.tellsSeen_, f14 = 1.starsHold_, f15 = 3.clauses_, f16 = 3.answer_, f17 = 3.seenByPlace_; arrays: g0 = 4, g1 = 5, g2 = 6, g3 = 7, g4 = 8, g5 = 9, g6 = 10, g7 = 11, g8 = 12, g9 = 13, g10 = 14; out: [('ret', None), ('f', 3), ('f', 4), ('f', 5), ('f', 8), ('f', 14), ('f', 16), ('g', 0), ('g', 1), ('g', 9)]
abbrev zy_X_seen : zNL := (15, [(0, 0), (1, 7), (2, 1), (3, 4)], [(0, 0, 7, 0), (1, 7, 0, 1), (1, 7, 1, 2), (1, 7, 6, 3), (1, 7, 2, 4), (1, 7, 3, 5), (2, 1, 6, 6), (2, 1, 7, 7), (1, 7, 4, 8), (2, 1, 0, 9), (2, 1, 9, 10), (2, 1, 10, 11), (2, 1, 8, 12), (3, 4, 8, 13), (1, 7, 7, 14), (3, 4, 7, 15), (3, 4, 14, 16), (3, 4, 10, 17)], [(0, 0, 12, 1), (0, 0, 0, 2), (1, 7, 8, 4), (3, 4, 12, 5), (2, 1, 1, 6), (2, 1, 2, 7), (2, 1, 3, 8), (3, 4, 3, 9), (3, 4, 5, 10), (3, 4, 6, 11), (3, 4, 0, 12), (3, 4, 13, 13), (3, 4, 1, 14)], [(4, 0, 24, 0), (5, 0, 13, 1), (6, 0, 24, 2), (7, 0, 24, 3), (8, 0, 24, 4), (9, 0, 14, 5), (10, 0, 14, 6), (11, 0, 14, 7), (12, 0, 200, 8), (13, 0, 40, 9), (14, 0, 200, 10)])
theorem zyw_X_seen : zv_wf zy_X_seen = true := by decide +kernel
theorem zye_X_seen : zv_ek2 zy_X_seen = true := by decide +kernel
def zf_X_seen (x1 : Int) (x2 : Int) (f3 : Int) (f4 : Int) (f5 : Int) (f6 : Int) (f7 : Int) (f8 : Int) (f9 : Int) (f10 : Int) (f11 : Int) (f12 : Int) (f13 : Int) (f14 : Int) (f15 : Int) (f16 : Int) (f17 : Int) (g0 : (Int → Int)) (g1 : (Int → Int)) (g2 : (Int → Int)) (g3 : (Int → Int)) (g4 : (Int → Int)) (g5 : (Int → Int)) (g6 : (Int → Int)) (g7 : (Int → Int)) (g8 : (Int → Int)) (g9 : (Int → Int)) (g10 : (Int → Int)) : Option (Int × Int × Int × Int × Int × Int × Int × (Int → Int) × (Int → Int) × (Int → Int)) := (zf_X_isPlace x1 x2).bind fun r1 => (if r1 = 0 then (some ((-1), f3, f4, f5, f8, f14, f16, g0, g1, g9)) else ((zf_View_open f3 g0).bind fun r3 => ((zf_View_look x1 x2 f4 f5 f6 f7 f8 f9 f10 f11 f12 f13 r3.1 f14 f15 f16 f17 g1 g2 g3 g4 g5 g6 g7 g8 g9 g10).bind fun r4 => (some (r4.2.2.1, r4.2.2.2.1, r4.1, r4.2.1, r4.2.2.1, r4.2.2.2.2.1, r4.2.2.2.2.2.1, r3.2, r4.2.2.2.2.2.2.1, r4.2.2.2.2.2.2.2)))))
theorem zd83_0 : decode zxm83.2.1 0 = .ok (.iload_n 1, 1) := by decide +kernel
theorem zd83_1 : decode zxm83.2.1 1 = .ok (.iload_n 2, 1) := by decide +kernel
theorem zd83_2 : decode zxm83.2.1 2 = .ok (.invokestatic 130, 3) := by decide +kernel
theorem zd83_5 : decode zxm83.2.1 5 = .ok (.ifCond .ne 5, 3) := by decide +kernel
theorem zd83_8 : decode zxm83.2.1 8 = .ok (.iconst (-1), 1) := by decide +kernel
theorem zd83_9 : decode zxm83.2.1 9 = .ok (.ireturn, 1) := by decide +kernel
theorem zd83_10 : decode zxm83.2.1 10 = .ok (.aload_n 0, 1) := by decide +kernel
theorem zd83_11 : decode zxm83.2.1 11 = .ok (.getfield 81, 3) := by decide +kernel
theorem zd83_14 : decode zxm83.2.1 14 = .ok (.aload_n 0, 1) := by decide +kernel
theorem zd83_15 : decode zxm83.2.1 15 = .ok (.getfield 10, 3) := by decide +kernel
theorem zd83_18 : decode zxm83.2.1 18 = .ok (.aload_n 0, 1) := by decide +kernel
theorem zd83_19 : decode zxm83.2.1 19 = .ok (.getfield 46, 3) := by decide +kernel
theorem zd83_22 : decode zxm83.2.1 22 = .ok (.invokevirtual 211, 3) := by decide +kernel
theorem zd83_25 : decode zxm83.2.1 25 = .ok (.aload_n 0, 1) := by decide +kernel
theorem zd83_26 : decode zxm83.2.1 26 = .ok (.getfield 81, 3) := by decide +kernel
theorem zd83_29 : decode zxm83.2.1 29 = .ok (.iload_n 1, 1) := by decide +kernel
theorem zd83_30 : decode zxm83.2.1 30 = .ok (.iload_n 2, 1) := by decide +kernel
theorem zd83_31 : decode zxm83.2.1 31 = .ok (.invokevirtual 214, 3) := by decide +kernel
theorem zd83_34 : decode zxm83.2.1 34 = .ok (.aload_n 0, 1) := by decide +kernel
theorem zd83_35 : decode zxm83.2.1 35 = .ok (.getfield 81, 3) := by decide +kernel
theorem zd83_38 : decode zxm83.2.1 38 = .ok (.getfield 218, 3) := by decide +kernel
theorem zd83_41 : decode zxm83.2.1 41 = .ok (.ireturn, 1) := by decide +kernel
theorem zt_X_seen {x1 : Int} {x2 : Int} {f3 : Int} {f4 : Int} {f5 : Int} {f6 : Int} {f7 : Int} {f8 : Int} {f9 : Int} {f10 : Int} {f11 : Int} {f12 : Int} {f13 : Int} {f14 : Int} {f15 : Int} {f16 : Int} {f17 : Int} {g0 : (Int → Int)} {g1 : (Int → Int)} {g2 : (Int → Int)} {g3 : (Int → Int)} {g4 : (Int → Int)} {g5 : (Int → Int)} {g6 : (Int → Int)} {g7 : (Int → Int)} {g8 : (Int → Int)} {g9 : (Int → Int)} {g10 : (Int → Int)} {o : Int × Int × Int × Int × Int × Int × Int × (Int → Int) × (Int → Int) × (Int → Int)} (h : zf_X_seen x1 x2 f3 f4 f5 f6 f7 f8 f9 f10 f11 f12 f13 f14 f15 f16 f17 g0 g1 g2 g3 g4 g5 g6 g7 g8 g9 g10 = some o) : zv_Fn z_TB z_cl z_KX zy_X_seen zxm83 (5, 300) [.inr 0, .inl x1, .inl x2] [.inr 3, .inr 1000, .inr 1000, .inl f3, .inl f4, .inl f5, .inl f6, .inl f7, .inl f8, .inl f9, .inl f10, .inl f11, .inl f12, .inl f13, .inl f14, .inl f15, .inl f16, .inl f17] [g0, g1, g2, g3, g4, g5, g6, g7, g8, g9, g10] (some o.1) [.inr 3, .inr 1000, .inr 1000, .inl o.2.1, .inl o.2.2.1, .inl o.2.2.2.1, .inl f6, .inl f7, .inl o.2.2.2.2.1, .inl f9, .inl f10, .inl f11, .inl f12, .inl f13, .inl o.2.2.2.2.2.1, .inl f15, .inl o.2.2.2.2.2.2.1, .inl f17] [o.2.2.2.2.2.2.2.1, o.2.2.2.2.2.2.2.2.1, g2, g3, g4, g5, g6, g7, g8, o.2.2.2.2.2.2.2.2.2, g10] := zv_meth (K := (z_KF0, z_KC0, z_KL0, z_KT0, [], [], [], none)) (FT := z_FT) (MT := z_MT) (n := 3) zxp83 (z_ks0 _ (fun _ h => List.mem_cons_of_mem _ h) _ _ _ _ (fun j r h _ => by cases h)) (fun _ _ => zs_KX_p) zyw_X_seen (fun va F G h => by obtain ⟨rfl, _⟩ := h; rfl) (fun va F G h => by obtain ⟨rfl, _⟩ := h; rfl) rfl fun good va F G hB hret hvret hP => by
  obtain ⟨rfl, rfl, rfl⟩ := hP
  unfold zf_X_seen at h
  refine zv_ild hB zd83_0 rfl rfl ?_
  refine zv_ild hB zd83_1 rfl rfl ?_
  obtain ⟨r1, hr1, h⟩ := zi_bind h
  refine zv_cs hB (zv_emq (va2 := [.inl x1, .inl x2]) (F := [.inr 3, .inr 1000, .inr 1000, .inl f3, .inl f4, .inl f5, .inl f6, .inl f7, .inl f8, .inl f9, .inl f10, .inl f11, .inl f12, .inl f13, .inl f14, .inl f15, .inl f16, .inl f17]) (F' := [.inr 3, .inr 1000, .inr 1000, .inl f3, .inl f4, .inl f5, .inl f6, .inl f7, .inl f8, .inl f9, .inl f10, .inl f11, .inl f12, .inl f13, .inl f14, .inl f15, .inl f16, .inl f17]) (G := [g0, g1, g2, g3, g4, g5, g6, g7, g8, g9, g10]) (G' := [g0, g1, g2, g3, g4, g5, g6, g7, g8, g9, g10]) (ρ := []) (φ := []) (ψ := []) [none, none, none, none, none, none, none, none, none, none, none, none, none, none, none, none, none, none] [none, none, none, none, none, none, none, none, none, none, none] zyw_X_isPlace zyw_X_seen zye_X_seen (by decide +kernel) (zt_X_isPlace hr1) trivial trivial rfl rfl rfl rfl rfl rfl rfl) zd83_2 zxt16 rfl (by decide) (by decide) rfl ?_
  refine zv_zne hB zd83_5 rfl (fun hc2 => ?_) (fun hc2 => ?_)
  · rw [if_neg hc2] at h
    refine zv_ald hB zd83_10 rfl rfl rfl ?_
    refine zv_getr hB zd83_11 rfl ?_
    refine zv_ald hB zd83_14 rfl rfl rfl ?_
    refine zv_getr hB zd83_15 rfl ?_
    refine zv_ald hB zd83_18 rfl rfl rfl ?_
    refine zv_getq hB zd83_19 rfl rfl rfl ?_
    obtain ⟨r3, hr3, h⟩ := zi_bind h
    refine zv_cv hB (zv_emq (va2 := [.inr 1, .inr 2, .inr 3]) (F := [.inr 3, .inr 1000, .inr 1000, .inl f3, .inl f4, .inl f5, .inl f6, .inl f7, .inl f8, .inl f9, .inl f10, .inl f11, .inl f12, .inl f13, .inl f14, .inl f15, .inl f16, .inl f17]) (F' := [.inr 3, .inr 2, .inr 3, .inl r3.1, .inl f4, .inl f5, .inl f6, .inl f7, .inl f8, .inl f9, .inl f10, .inl f11, .inl f12, .inl f13, .inl f14, .inl f15, .inl f16, .inl f17]) (G := [g0, g1, g2, g3, g4, g5, g6, g7, g8, g9, g10]) (G' := [r3.2, g1, g2, g3, g4, g5, g6, g7, g8, g9, g10]) (ρ := [1, 2, 3, 4]) (φ := [1, 2, 3]) (ψ := [0]) [none, some 0, some 1, some 2, none, none, none, none, none, none, none, none, none, none, none, none, none, none] [some 0, none, none, none, none, none, none, none, none, none, none] zyw_View_open zyw_X_seen zye_X_seen (by decide +kernel) (zt_View_open hr3) ⟨⟨_, rfl, fun (h : zv_is (.inr 1000)) => (Nat.lt_irrefl 1000 h).elim⟩, ⟨_, rfl, fun (h : zv_is (.inr 1000)) => (Nat.lt_irrefl 1000 h).elim⟩, ⟨_, rfl, fun _ => rfl⟩, trivial⟩ ⟨rfl, trivial⟩ rfl rfl rfl rfl rfl rfl rfl) zd83_22 zxt84 rfl (by decide) (by decide) rfl ?_
    refine zv_ald hB zd83_25 rfl rfl rfl ?_
    refine zv_getr hB zd83_26 rfl ?_
    refine zv_ild hB zd83_29 rfl rfl ?_
    refine zv_ild hB zd83_30 rfl rfl ?_
    obtain ⟨r4, hr4, h⟩ := zi_bind h
    refine zv_cv hB (zv_emq (va2 := [.inr 1, .inl x1, .inl x2]) (F := [.inr 3, .inr 2, .inr 3, .inl r3.1, .inl f4, .inl f5, .inl f6, .inl f7, .inl f8, .inl f9, .inl f10, .inl f11, .inl f12, .inl f13, .inl f14, .inl f15, .inl f16, .inl f17]) (F' := [.inr 3, .inr 2, .inr 3, .inl r4.2.2.2.1, .inl r4.1, .inl r4.2.1, .inl f6, .inl f7, .inl r4.2.2.1, .inl f9, .inl f10, .inl f11, .inl f12, .inl f13, .inl r4.2.2.2.2.1, .inl f15, .inl r4.2.2.2.2.2.1, .inl f17]) (G := [r3.2, g1, g2, g3, g4, g5, g6, g7, g8, g9, g10]) (G' := [r3.2, r4.2.2.2.2.2.2.1, g2, g3, g4, g5, g6, g7, g8, r4.2.2.2.2.2.2.2, g10]) (ρ := [1, 3, 5, 2, 6, 7, 8, 9, 10, 11, 12, 13, 14]) (φ := [2, 1, 4, 5, 6, 7, 8, 9, 10, 11, 12, 13, 3, 14, 15, 16, 17]) (ψ := [1, 2, 3, 4, 5, 6, 7, 8, 9, 10]) [none, some 1, some 0, some 12, some 2, some 3, some 4, some 5, some 6, some 7, some 8, some 9, some 10, some 11, some 13, some 14, some 15, some 16] [none, some 0, some 1, some 2, some 3, some 4, some 5, some 6, some 7, some 8, some 9] zyw_View_look zyw_X_seen zye_X_seen (by decide +kernel) (zt_View_look hr4) ⟨⟨_, rfl, fun _ => rfl⟩, ⟨_, rfl, fun _ => rfl⟩, ⟨_, rfl, fun _ => rfl⟩, ⟨_, rfl, fun _ => rfl⟩, ⟨_, rfl, fun _ => rfl⟩, ⟨_, rfl, fun _ => rfl⟩, ⟨_, rfl, fun _ => rfl⟩, ⟨_, rfl, fun _ => rfl⟩, ⟨_, rfl, fun _ => rfl⟩, ⟨_, rfl, fun _ => rfl⟩, ⟨_, rfl, fun _ => rfl⟩, ⟨_, rfl, fun _ => rfl⟩, ⟨_, rfl, fun _ => rfl⟩, ⟨_, rfl, fun _ => rfl⟩, ⟨_, rfl, fun _ => rfl⟩, ⟨_, rfl, fun _ => rfl⟩, ⟨_, rfl, fun _ => rfl⟩, trivial⟩ ⟨rfl, rfl, rfl, rfl, rfl, rfl, rfl, rfl, rfl, rfl, trivial⟩ rfl rfl rfl rfl rfl rfl rfl) zd83_31 zxt85 rfl (by decide) (by decide) rfl ?_
    refine zv_ald hB zd83_34 rfl rfl rfl ?_
    refine zv_getr hB zd83_35 rfl ?_
    refine zv_getf hB zd83_38 rfl rfl (fun _ _ => ?_)
    have hw := Option.some.inj h
    refine zv_wk hB (L' := [.inr 0, .inl x1, .inl x2]) (F' := [.inr 3, .inr 1000, .inr 1000, .inl r4.2.2.2.1, .inl r4.1, .inl r4.2.1, .inl f6, .inl f7, .inl r4.2.2.1, .inl f9, .inl f10, .inl f11, .inl f12, .inl f13, .inl r4.2.2.2.2.1, .inl f15, .inl r4.2.2.2.2.2.1, .inl f17]) ⟨fun _ => rfl, fun _ => rfl, fun _ => rfl, trivial⟩ ⟨fun _ => rfl, fun (h : zv_is (.inr 1000)) => (Nat.lt_irrefl 1000 h).elim, fun (h : zv_is (.inr 1000)) => (Nat.lt_irrefl 1000 h).elim, fun _ => rfl, fun _ => rfl, fun _ => rfl, fun _ => rfl, fun _ => rfl, fun _ => rfl, fun _ => rfl, fun _ => rfl, fun _ => rfl, fun _ => rfl, fun _ => rfl, fun _ => rfl, fun _ => rfl, fun _ => rfl, fun _ => rfl, trivial⟩ ?_
    subst hw
    exact hret _ _ _ _ _ zd83_41 (by trivial) ⟨rfl, rfl, rfl⟩
  · rw [if_pos hc2] at h
    refine zv_con hB zd83_8 rfl ?_
    have hw := Option.some.inj h
    subst hw
    exact hret _ _ _ _ _ zd83_9 (by trivial) ⟨rfl, rfl, rfl⟩
/-! Law_setOther (LStarTales$Sky;I)V -/
-- names: 0 Law('arg', 0), 1 Sky('arg', 1), 2 (0, 13)(0, 4, 12), 3 (0, 24)(1, 1, 3), 4 (0, 24)(1, 1, 2), 5 (0, 24)(1, 1, 1)
-- fields: f0 = 1.hour_; arrays: g0 = 2, g1 = 3, g2 = 4, g3 = 5; out: [('g', 0)]
abbrev zy_Law_setOther : zNL := (6, [(0, 4), (1, 1)], [(1, 1, 6, 0)], [(0, 4, 12, 2), (1, 1, 3, 3), (1, 1, 2, 4), (1, 1, 1, 5)], [(2, 0, 13, 0), (3, 0, 24, 1), (4, 0, 24, 2), (5, 0, 24, 3)])
theorem zyw_Law_setOther : zv_wf zy_Law_setOther = true := by decide +kernel
theorem zye_Law_setOther : zv_ek2 zy_Law_setOther = true := by decide +kernel
def zf_Law_setOther (x2 : Int) (f0 : Int) (g0 : (Int → Int)) (g1 : (Int → Int)) (g2 : (Int → Int)) (g3 : (Int → Int)) : Option ((Int → Int)) := cond (zi_ix x2 24) ((zf_Sky_standing x2 f0 g3).bind fun r2 => (some (zv_up (zv_up (zv_up (zv_up g0 6 x2) 7 (g1 x2)) 8 (g2 x2)) 9 r2))) none
theorem zd99_0 : decode zxm99.2.1 0 = .ok (.aload_n 0, 1) := by decide +kernel
theorem zd99_1 : decode zxm99.2.1 1 = .ok (.getfield 56, 3) := by decide +kernel
theorem zd99_4 : decode zxm99.2.1 4 = .ok (.bipush 6, 2) := by decide +kernel
theorem zd99_6 : decode zxm99.2.1 6 = .ok (.iload_n 2, 1) := by decide +kernel
theorem zd99_7 : decode zxm99.2.1 7 = .ok (.iastore, 1) := by decide +kernel
theorem zd99_8 : decode zxm99.2.1 8 = .ok (.aload_n 0, 1) := by decide +kernel
theorem zd99_9 : decode zxm99.2.1 9 = .ok (.getfield 56, 3) := by decide +kernel
theorem zd99_12 : decode zxm99.2.1 12 = .ok (.bipush 7, 2) := by decide +kernel
theorem zd99_14 : decode zxm99.2.1 14 = .ok (.aload_n 1, 1) := by decide +kernel
theorem zd99_15 : decode zxm99.2.1 15 = .ok (.getfield 83, 3) := by decide +kernel
theorem zd99_18 : decode zxm99.2.1 18 = .ok (.iload_n 2, 1) := by decide +kernel
theorem zd99_19 : decode zxm99.2.1 19 = .ok (.iaload, 1) := by decide +kernel
theorem zd99_20 : decode zxm99.2.1 20 = .ok (.iastore, 1) := by decide +kernel
theorem zd99_21 : decode zxm99.2.1 21 = .ok (.aload_n 0, 1) := by decide +kernel
theorem zd99_22 : decode zxm99.2.1 22 = .ok (.getfield 56, 3) := by decide +kernel
theorem zd99_25 : decode zxm99.2.1 25 = .ok (.bipush 8, 2) := by decide +kernel
theorem zd99_27 : decode zxm99.2.1 27 = .ok (.aload_n 1, 1) := by decide +kernel
theorem zd99_28 : decode zxm99.2.1 28 = .ok (.getfield 86, 3) := by decide +kernel
theorem zd99_31 : decode zxm99.2.1 31 = .ok (.iload_n 2, 1) := by decide +kernel
theorem zd99_32 : decode zxm99.2.1 32 = .ok (.iaload, 1) := by decide +kernel
theorem zd99_33 : decode zxm99.2.1 33 = .ok (.iastore, 1) := by decide +kernel
theorem zd99_34 : decode zxm99.2.1 34 = .ok (.aload_n 0, 1) := by decide +kernel
theorem zd99_35 : decode zxm99.2.1 35 = .ok (.getfield 56, 3) := by decide +kernel
theorem zd99_38 : decode zxm99.2.1 38 = .ok (.bipush 9, 2) := by decide +kernel
theorem zd99_40 : decode zxm99.2.1 40 = .ok (.aload_n 1, 1) := by decide +kernel
theorem zd99_41 : decode zxm99.2.1 41 = .ok (.iload_n 2, 1) := by decide +kernel
theorem zd99_42 : decode zxm99.2.1 42 = .ok (.invokevirtual 89, 3) := by decide +kernel
theorem zd99_45 : decode zxm99.2.1 45 = .ok (.iastore, 1) := by decide +kernel
theorem zd99_46 : decode zxm99.2.1 46 = .ok (.return_, 1) := by decide +kernel
theorem zt_Law_setOther {x2 : Int} {f0 : Int} {g0 : (Int → Int)} {g1 : (Int → Int)} {g2 : (Int → Int)} {g3 : (Int → Int)} {o : (Int → Int)} (h : zf_Law_setOther x2 f0 g0 g1 g2 g3 = some o) : zv_Fn z_TB z_cl z_KX zy_Law_setOther zxm99 (1, 60) [.inr 0, .inr 1, .inl x2] [.inl f0] [g0, g1, g2, g3] none [.inl f0] [o, g1, g2, g3] := zv_meth (K := (z_KF2, z_KC2, z_KL2, z_KT2, [], [], [], none)) (FT := z_FT) (MT := z_MT) (n := 3) zxp99 (z_ks2 _ (fun _ h => List.mem_cons_of_mem _ h) _ _ _ _ (fun j r h _ => by cases h)) (fun _ _ => zs_KX_p) zyw_Law_setOther (fun va F G h => by obtain ⟨rfl, _⟩ := h; rfl) (fun va F G h => by obtain ⟨rfl, _⟩ := h; rfl) rfl fun good va F G hB hret hvret hP => by
  obtain ⟨rfl, rfl, rfl⟩ := hP
  unfold zf_Law_setOther at h
  refine zv_ald hB zd99_0 rfl rfl rfl ?_
  refine zv_getr hB zd99_1 rfl ?_
  refine zv_con hB zd99_4 rfl ?_
  refine zv_ild hB zd99_6 rfl rfl ?_
  refine zv_iast hB zd99_7 rfl rfl (by decide) (by decide) ?_
  refine zv_ald hB zd99_8 rfl rfl rfl ?_
  refine zv_getr hB zd99_9 rfl ?_
  refine zv_con hB zd99_12 rfl ?_
  refine zv_ald hB zd99_14 rfl rfl rfl ?_
  refine zv_getr hB zd99_15 rfl ?_
  refine zv_ild hB zd99_18 rfl rfl ?_
  obtain ⟨c1, h⟩ := zi_if h
  refine zv_iald hB zd99_19 rfl rfl (zi_ix_ok c1).1 (zi_ix_ok c1).2 (fun _ _ => ?_)
  refine zv_iast hB zd99_20 rfl rfl (by decide) (by decide) ?_
  refine zv_ald hB zd99_21 rfl rfl rfl ?_
  refine zv_getr hB zd99_22 rfl ?_
  refine zv_con hB zd99_25 rfl ?_
  refine zv_ald hB zd99_27 rfl rfl rfl ?_
  refine zv_getr hB zd99_28 rfl ?_
  refine zv_ild hB zd99_31 rfl rfl ?_
  refine zv_iald hB zd99_32 rfl rfl (zi_ix_ok c1).1 (zi_ix_ok c1).2 (fun _ _ => ?_)
  refine zv_iast hB zd99_33 rfl rfl (by decide) (by decide) ?_
  refine zv_ald hB zd99_34 rfl rfl rfl ?_
  refine zv_getr hB zd99_35 rfl ?_
  refine zv_con hB zd99_38 rfl ?_
  refine zv_ald hB zd99_40 rfl rfl rfl ?_
  refine zv_ild hB zd99_41 rfl rfl ?_
  obtain ⟨r2, hr2, h⟩ := zi_bind h
  refine zv_cv hB (zv_emq (va2 := [.inr 1, .inl x2]) (F := [.inl f0]) (F' := [.inl f0]) (G := [(zv_up (zv_up (zv_up g0 6 x2) 7 (g1 x2)) 8 (g2 x2)), g1, g2, g3]) (G' := [(zv_up (zv_up (zv_up g0 6 x2) 7 (g1 x2)) 8 (g2 x2)), g1, g2, g3]) (ρ := [1, 5]) (φ := [0]) (ψ := [3]) [some 0] [none, none, none, some 0] zyw_Sky_standing zyw_Law_setOther zye_Law_setOther (by decide +kernel) (zt_Sky_standing hr2) ⟨⟨_, rfl, fun _ => rfl⟩, trivial⟩ ⟨rfl, trivial⟩ rfl rfl rfl rfl rfl rfl rfl) zd99_42 zxt82 rfl (by decide) (by decide) rfl ?_
  refine zv_iast hB zd99_45 rfl rfl (by decide) (by decide) ?_
  have hw := Option.some.inj h
  subst hw
  exact hvret _ _ _ _ zd99_46 trivial ⟨rfl, rfl, rfl⟩
/-! View_isDrawn (II)Z -/
-- names: 0 View('arg', 0), 1 (0, 24)(0, 7, 8), 2 (0, 24)(0, 7, 9), 3 Law(0, 7, 1), 4 Sky(0, 7, 0), 5 (0, 13)(3, 4, 12), 6 (0, 24)(4, 1, 3), 7 (0, 24)(4, 1, 2), 8 (0, 24)(4, 1, 1), 9 (0, 14)(3, 4, 3), 10 (0, 14)(3, 4, 5), 11 (0, 14)(3, 4, 6), 12 (0, 200)(3, 4, 0), 13 (0, 40)(3, 4, 13), 14 (0, 200)(3, 4, 1)
-- fields: f0 = 0.law_, f1 = 0.sky_, f2 = 4.hour_, f3 = 3.clauses_, f4 = 3.answer_, f5 = 3.linesByPlace_; arrays: g0 = 1, g1 = 2, g2 = 5, g3 = 6, g4 = 7, g5 = 8, g6 = 9, g7 = 10, g8 = 11, g9 = 12, g10 = 13, g11 = 14; out: [('ret', None), ('f', 4), ('g', 0), ('g', 1), ('g', 2), ('g', 10)]
abbrev zy_View_isDrawn : zNL := (15, [(0, 7), (3, 4), (4, 1)], [(0, 7, 1, 0), (0, 7, 0, 1), (4, 1, 6, 2), (3, 4, 7, 3), (3, 4, 14, 4), (3, 4, 11, 5)], [(0, 7, 8, 1), (0, 7, 9, 2), (3, 4, 12, 5), (4, 1, 3, 6), (4, 1, 2, 7), (4, 1, 1, 8), (3, 4, 3, 9), (3, 4, 5, 10), (3, 4, 6, 11), (3, 4, 0, 12), (3, 4, 13, 13), (3, 4, 1, 14)], [(1, 0, 24, 0), (2, 0, 24, 1), (5, 0, 13, 2), (6, 0, 24, 3), (7, 0, 24, 4), (8, 0, 24, 5), (9, 0, 14, 6), (10, 0, 14, 7), (11, 0, 14, 8), (12, 0, 200, 9), (13, 0, 40, 10), (14, 0, 200, 11)])
theorem zyw_View_isDrawn : zv_wf zy_View_isDrawn = true := by decide +kernel
theorem zye_View_isDrawn : zv_ek2 zy_View_isDrawn = true := by decide +kernel
def zf_View_isDrawn (x1 : Int) (x2 : Int) (f2 : Int) (f3 : Int) (f4 : Int) (f5 : Int) (g0 : (Int → Int)) (g1 : (Int → Int)) (g2 : (Int → Int)) (g3 : (Int → Int)) (g4 : (Int → Int)) (g5 : (Int → Int)) (g6 : (Int → Int)) (g7 : (Int → Int)) (g8 : (Int → Int)) (g9 : (Int → Int)) (g10 : (Int → Int)) (g11 : (Int → Int)) : Option (Int × Int × (Int → Int) × (Int → Int) × (Int → Int) × (Int → Int)) := cond (zi_ix x1 24) (if (zi_and (zi_shr (g0 x1) x2) 1) = 0 then ((zf_Law_setStar x1 f2 g2 g3 g4 g5).bind fun r4 => ((zf_Law_setOther x2 f2 r4 g3 g4 g5).bind fun r5 => (cond (zi_ix x2 24) ((zf_X_columnsBetween (g5 x1) (g5 x2)).bind fun r7 => ((zf_Math_abs (zi_w ((g4 x1) - (g4 x2)))).bind fun r8 => ((zf_Law_anyHolds 106 f3 f4 g6 g7 g8 g9 g10 g11 (zv_up r5 12 (zi_w (r7 + r8)))).bind fun r9 => (if r9.1 = 0 then (if f5 = 0 then (if (zi_and (zi_shr ((zv_up g1 x1 (zi_and (g1 x1) (zi_xor (zi_shl 1 x2) (-1)))) x1) x2) 1) = 0 then (some (0, r9.2.1, (zv_up g0 x1 (zi_or (g0 x1) (zi_shl 1 x2))), (zv_up g1 x1 (zi_and (g1 x1) (zi_xor (zi_shl 1 x2) (-1)))), (zv_up r5 12 (zi_w (r7 + r8))), r9.2.2)) else (some (1, r9.2.1, (zv_up g0 x1 (zi_or (g0 x1) (zi_shl 1 x2))), (zv_up g1 x1 (zi_and (g1 x1) (zi_xor (zi_shl 1 x2) (-1)))), (zv_up r5 12 (zi_w (r7 + r8))), r9.2.2))) else (if (zi_and (zi_shr ((zv_up g1 x1 (zi_and (g1 x1) (zi_xor (zi_shl 1 x2) (-1)))) x1) x2) 1) = 0 then (some (0, r9.2.1, g0, (zv_up g1 x1 (zi_and (g1 x1) (zi_xor (zi_shl 1 x2) (-1)))), (zv_up r5 12 (zi_w (r7 + r8))), r9.2.2)) else (some (1, r9.2.1, g0, (zv_up g1 x1 (zi_and (g1 x1) (zi_xor (zi_shl 1 x2) (-1)))), (zv_up r5 12 (zi_w (r7 + r8))), r9.2.2)))) else (if f5 = 0 then (if (zi_and (zi_shr ((zv_up g1 x1 (zi_or (g1 x1) (zi_shl 1 x2))) x1) x2) 1) = 0 then (some (0, r9.2.1, (zv_up g0 x1 (zi_or (g0 x1) (zi_shl 1 x2))), (zv_up g1 x1 (zi_or (g1 x1) (zi_shl 1 x2))), (zv_up r5 12 (zi_w (r7 + r8))), r9.2.2)) else (some (1, r9.2.1, (zv_up g0 x1 (zi_or (g0 x1) (zi_shl 1 x2))), (zv_up g1 x1 (zi_or (g1 x1) (zi_shl 1 x2))), (zv_up r5 12 (zi_w (r7 + r8))), r9.2.2))) else (if (zi_and (zi_shr ((zv_up g1 x1 (zi_or (g1 x1) (zi_shl 1 x2))) x1) x2) 1) = 0 then (some (0, r9.2.1, g0, (zv_up g1 x1 (zi_or (g1 x1) (zi_shl 1 x2))), (zv_up r5 12 (zi_w (r7 + r8))), r9.2.2)) else (some (1, r9.2.1, g0, (zv_up g1 x1 (zi_or (g1 x1) (zi_shl 1 x2))), (zv_up r5 12 (zi_w (r7 + r8))), r9.2.2)))))))) none))) else (if (zi_and (zi_shr (g1 x1) x2) 1) = 0 then (some (0, f4, g0, g1, g2, g10)) else (some (1, f4, g0, g1, g2, g10)))) none
theorem zd98_0 : decode zxm98.2.1 0 = .ok (.aload_n 0, 1) := by decide +kernel
theorem zd98_1 : decode zxm98.2.1 1 = .ok (.getfield 31, 3) := by decide +kernel
theorem zd98_4 : decode zxm98.2.1 4 = .ok (.iload_n 1, 1) := by decide +kernel
theorem zd98_5 : decode zxm98.2.1 5 = .ok (.iaload, 1) := by decide +kernel
theorem zd98_6 : decode zxm98.2.1 6 = .ok (.iload_n 2, 1) := by decide +kernel
theorem zd98_7 : decode zxm98.2.1 7 = .ok (.ishr, 1) := by decide +kernel
theorem zd98_8 : decode zxm98.2.1 8 = .ok (.iconst 1, 1) := by decide +kernel
theorem zd98_9 : decode zxm98.2.1 9 = .ok (.iand, 1) := by decide +kernel
theorem zd98_10 : decode zxm98.2.1 10 = .ok (.ifCond .ne 144, 3) := by decide +kernel
theorem zd98_13 : decode zxm98.2.1 13 = .ok (.aload_n 0, 1) := by decide +kernel
theorem zd98_14 : decode zxm98.2.1 14 = .ok (.getfield 41, 3) := by decide +kernel
theorem zd98_17 : decode zxm98.2.1 17 = .ok (.aload_n 0, 1) := by decide +kernel
theorem zd98_18 : decode zxm98.2.1 18 = .ok (.getfield 37, 3) := by decide +kernel
theorem zd98_21 : decode zxm98.2.1 21 = .ok (.iload_n 1, 1) := by decide +kernel
theorem zd98_22 : decode zxm98.2.1 22 = .ok (.invokevirtual 105, 3) := by decide +kernel
theorem zd98_25 : decode zxm98.2.1 25 = .ok (.aload_n 0, 1) := by decide +kernel
theorem zd98_26 : decode zxm98.2.1 26 = .ok (.getfield 41, 3) := by decide +kernel
theorem zd98_29 : decode zxm98.2.1 29 = .ok (.aload_n 0, 1) := by decide +kernel
theorem zd98_30 : decode zxm98.2.1 30 = .ok (.getfield 37, 3) := by decide +kernel
theorem zd98_33 : decode zxm98.2.1 33 = .ok (.iload_n 2, 1) := by decide +kernel
theorem zd98_34 : decode zxm98.2.1 34 = .ok (.invokevirtual 122, 3) := by decide +kernel
theorem zd98_37 : decode zxm98.2.1 37 = .ok (.aload_n 0, 1) := by decide +kernel
theorem zd98_38 : decode zxm98.2.1 38 = .ok (.getfield 41, 3) := by decide +kernel
theorem zd98_41 : decode zxm98.2.1 41 = .ok (.getfield 60, 3) := by decide +kernel
theorem zd98_44 : decode zxm98.2.1 44 = .ok (.bipush 12, 2) := by decide +kernel
theorem zd98_46 : decode zxm98.2.1 46 = .ok (.aload_n 0, 1) := by decide +kernel
theorem zd98_47 : decode zxm98.2.1 47 = .ok (.getfield 37, 3) := by decide +kernel
theorem zd98_50 : decode zxm98.2.1 50 = .ok (.getfield 125, 3) := by decide +kernel
theorem zd98_53 : decode zxm98.2.1 53 = .ok (.iload_n 1, 1) := by decide +kernel
theorem zd98_54 : decode zxm98.2.1 54 = .ok (.iaload, 1) := by decide +kernel
theorem zd98_55 : decode zxm98.2.1 55 = .ok (.aload_n 0, 1) := by decide +kernel
theorem zd98_56 : decode zxm98.2.1 56 = .ok (.getfield 37, 3) := by decide +kernel
theorem zd98_59 : decode zxm98.2.1 59 = .ok (.getfield 125, 3) := by decide +kernel
theorem zd98_62 : decode zxm98.2.1 62 = .ok (.iload_n 2, 1) := by decide +kernel
theorem zd98_63 : decode zxm98.2.1 63 = .ok (.iaload, 1) := by decide +kernel
theorem zd98_64 : decode zxm98.2.1 64 = .ok (.invokestatic 80, 3) := by decide +kernel
theorem zd98_67 : decode zxm98.2.1 67 = .ok (.aload_n 0, 1) := by decide +kernel
theorem zd98_68 : decode zxm98.2.1 68 = .ok (.getfield 37, 3) := by decide +kernel
theorem zd98_71 : decode zxm98.2.1 71 = .ok (.getfield 84, 3) := by decide +kernel
theorem zd98_74 : decode zxm98.2.1 74 = .ok (.iload_n 1, 1) := by decide +kernel
theorem zd98_75 : decode zxm98.2.1 75 = .ok (.iaload, 1) := by decide +kernel
theorem zd98_76 : decode zxm98.2.1 76 = .ok (.aload_n 0, 1) := by decide +kernel
theorem zd98_77 : decode zxm98.2.1 77 = .ok (.getfield 37, 3) := by decide +kernel
theorem zd98_80 : decode zxm98.2.1 80 = .ok (.getfield 84, 3) := by decide +kernel
theorem zd98_83 : decode zxm98.2.1 83 = .ok (.iload_n 2, 1) := by decide +kernel
theorem zd98_84 : decode zxm98.2.1 84 = .ok (.iaload, 1) := by decide +kernel
theorem zd98_85 : decode zxm98.2.1 85 = .ok (.isub, 1) := by decide +kernel
theorem zd98_86 : decode zxm98.2.1 86 = .ok (.invokestatic 87, 3) := by decide +kernel
theorem zd98_89 : decode zxm98.2.1 89 = .ok (.iadd, 1) := by decide +kernel
theorem zd98_90 : decode zxm98.2.1 90 = .ok (.iastore, 1) := by decide +kernel
theorem zd98_91 : decode zxm98.2.1 91 = .ok (.aload_n 0, 1) := by decide +kernel
theorem zd98_92 : decode zxm98.2.1 92 = .ok (.getfield 41, 3) := by decide +kernel
theorem zd98_95 : decode zxm98.2.1 95 = .ok (.bipush 106, 2) := by decide +kernel
theorem zd98_97 : decode zxm98.2.1 97 = .ok (.invokevirtual 109, 3) := by decide +kernel
theorem zd98_100 : decode zxm98.2.1 100 = .ok (.ifCond .eq 18, 3) := by decide +kernel
theorem zd98_103 : decode zxm98.2.1 103 = .ok (.aload_n 0, 1) := by decide +kernel
theorem zd98_104 : decode zxm98.2.1 104 = .ok (.getfield 34, 3) := by decide +kernel
theorem zd98_107 : decode zxm98.2.1 107 = .ok (.iload_n 1, 1) := by decide +kernel
theorem zd98_108 : decode zxm98.2.1 108 = .ok (.dup2, 1) := by decide +kernel
theorem zd98_109 : decode zxm98.2.1 109 = .ok (.iaload, 1) := by decide +kernel
theorem zd98_110 : decode zxm98.2.1 110 = .ok (.iconst 1, 1) := by decide +kernel
theorem zd98_111 : decode zxm98.2.1 111 = .ok (.iload_n 2, 1) := by decide +kernel
theorem zd98_112 : decode zxm98.2.1 112 = .ok (.ishl, 1) := by decide +kernel
theorem zd98_113 : decode zxm98.2.1 113 = .ok (.ior, 1) := by decide +kernel
theorem zd98_114 : decode zxm98.2.1 114 = .ok (.iastore, 1) := by decide +kernel
theorem zd98_115 : decode zxm98.2.1 115 = .ok (.goto 17, 3) := by decide +kernel
theorem zd98_118 : decode zxm98.2.1 118 = .ok (.aload_n 0, 1) := by decide +kernel
theorem zd98_119 : decode zxm98.2.1 119 = .ok (.getfield 34, 3) := by decide +kernel
theorem zd98_122 : decode zxm98.2.1 122 = .ok (.iload_n 1, 1) := by decide +kernel
theorem zd98_123 : decode zxm98.2.1 123 = .ok (.dup2, 1) := by decide +kernel
theorem zd98_124 : decode zxm98.2.1 124 = .ok (.iaload, 1) := by decide +kernel
theorem zd98_125 : decode zxm98.2.1 125 = .ok (.iconst 1, 1) := by decide +kernel
theorem zd98_126 : decode zxm98.2.1 126 = .ok (.iload_n 2, 1) := by decide +kernel
theorem zd98_127 : decode zxm98.2.1 127 = .ok (.ishl, 1) := by decide +kernel
theorem zd98_128 : decode zxm98.2.1 128 = .ok (.iconst (-1), 1) := by decide +kernel
theorem zd98_129 : decode zxm98.2.1 129 = .ok (.ixor, 1) := by decide +kernel
theorem zd98_130 : decode zxm98.2.1 130 = .ok (.iand, 1) := by decide +kernel
theorem zd98_131 : decode zxm98.2.1 131 = .ok (.iastore, 1) := by decide +kernel
theorem zd98_132 : decode zxm98.2.1 132 = .ok (.aload_n 0, 1) := by decide +kernel
theorem zd98_133 : decode zxm98.2.1 133 = .ok (.getfield 41, 3) := by decide +kernel
theorem zd98_136 : decode zxm98.2.1 136 = .ok (.getfield 128, 3) := by decide +kernel
theorem zd98_139 : decode zxm98.2.1 139 = .ok (.ifCond .ne 15, 3) := by decide +kernel
theorem zd98_142 : decode zxm98.2.1 142 = .ok (.aload_n 0, 1) := by decide +kernel
theorem zd98_143 : decode zxm98.2.1 143 = .ok (.getfield 31, 3) := by decide +kernel
theorem zd98_146 : decode zxm98.2.1 146 = .ok (.iload_n 1, 1) := by decide +kernel
theorem zd98_147 : decode zxm98.2.1 147 = .ok (.dup2, 1) := by decide +kernel
theorem zd98_148 : decode zxm98.2.1 148 = .ok (.iaload, 1) := by decide +kernel
theorem zd98_149 : decode zxm98.2.1 149 = .ok (.iconst 1, 1) := by decide +kernel
theorem zd98_150 : decode zxm98.2.1 150 = .ok (.iload_n 2, 1) := by decide +kernel
theorem zd98_151 : decode zxm98.2.1 151 = .ok (.ishl, 1) := by decide +kernel
theorem zd98_152 : decode zxm98.2.1 152 = .ok (.ior, 1) := by decide +kernel
theorem zd98_153 : decode zxm98.2.1 153 = .ok (.iastore, 1) := by decide +kernel
theorem zd98_154 : decode zxm98.2.1 154 = .ok (.aload_n 0, 1) := by decide +kernel
theorem zd98_155 : decode zxm98.2.1 155 = .ok (.getfield 34, 3) := by decide +kernel
theorem zd98_158 : decode zxm98.2.1 158 = .ok (.iload_n 1, 1) := by decide +kernel
theorem zd98_159 : decode zxm98.2.1 159 = .ok (.iaload, 1) := by decide +kernel
theorem zd98_160 : decode zxm98.2.1 160 = .ok (.iload_n 2, 1) := by decide +kernel
theorem zd98_161 : decode zxm98.2.1 161 = .ok (.ishr, 1) := by decide +kernel
theorem zd98_162 : decode zxm98.2.1 162 = .ok (.iconst 1, 1) := by decide +kernel
theorem zd98_163 : decode zxm98.2.1 163 = .ok (.iand, 1) := by decide +kernel
theorem zd98_164 : decode zxm98.2.1 164 = .ok (.ifCond .eq 7, 3) := by decide +kernel
theorem zd98_167 : decode zxm98.2.1 167 = .ok (.iconst 1, 1) := by decide +kernel
theorem zd98_168 : decode zxm98.2.1 168 = .ok (.goto 4, 3) := by decide +kernel
theorem zd98_171 : decode zxm98.2.1 171 = .ok (.iconst 0, 1) := by decide +kernel
theorem zd98_172 : decode zxm98.2.1 172 = .ok (.ireturn, 1) := by decide +kernel
theorem zt_View_isDrawn {x1 : Int} {x2 : Int} {f2 : Int} {f3 : Int} {f4 : Int} {f5 : Int} {g0 : (Int → Int)} {g1 : (Int → Int)} {g2 : (Int → Int)} {g3 : (Int → Int)} {g4 : (Int → Int)} {g5 : (Int → Int)} {g6 : (Int → Int)} {g7 : (Int → Int)} {g8 : (Int → Int)} {g9 : (Int → Int)} {g10 : (Int → Int)} {g11 : (Int → Int)} {o : Int × Int × (Int → Int) × (Int → Int) × (Int → Int) × (Int → Int)} (h : zf_View_isDrawn x1 x2 f2 f3 f4 f5 g0 g1 g2 g3 g4 g5 g6 g7 g8 g9 g10 g11 = some o) : zv_Fn z_TB z_cl z_KX zy_View_isDrawn zxm98 (3, 180) [.inr 0, .inl x1, .inl x2] [.inr 3, .inr 4, .inl f2, .inl f3, .inl f4, .inl f5] [g0, g1, g2, g3, g4, g5, g6, g7, g8, g9, g10, g11] (some o.1) [.inr 3, .inr 4, .inl f2, .inl f3, .inl o.2.1, .inl f5] [o.2.2.1, o.2.2.2.1, o.2.2.2.2.1, g3, g4, g5, g6, g7, g8, g9, o.2.2.2.2.2, g11] := zv_meth (K := (z_KF11, z_KC11, z_KL11, z_KT11, [], [], [], none)) (FT := z_FT) (MT := z_MT) (n := 3) zxp98 (z_ks11 _ (fun _ h => List.mem_cons_of_mem _ h) _ _ _ _ (fun j r h _ => by cases h)) (fun _ _ => zs_KX_p) zyw_View_isDrawn (fun va F G h => by obtain ⟨rfl, _⟩ := h; rfl) (fun va F G h => by obtain ⟨rfl, _⟩ := h; rfl) rfl fun good va F G hB hret hvret hP => by
  obtain ⟨rfl, rfl, rfl⟩ := hP
  unfold zf_View_isDrawn at h
  refine zv_ald hB zd98_0 rfl rfl rfl ?_
  refine zv_getr hB zd98_1 rfl ?_
  refine zv_ild hB zd98_4 rfl rfl ?_
  obtain ⟨c1, h⟩ := zi_if h
  refine zv_iald hB zd98_5 rfl rfl (zi_ix_ok c1).1 (zi_ix_ok c1).2 (fun _ _ => ?_)
  refine zv_ild hB zd98_6 rfl rfl ?_
  refine zv_shrw hB zd98_7 ?_
  refine zv_con hB zd98_8 rfl ?_
  refine zv_andw hB zd98_9 ?_
  refine zv_zne hB zd98_10 rfl (fun hc2 => ?_) (fun hc2 => ?_)
  · rw [if_neg hc2] at h
    refine zv_ald hB zd98_154 rfl rfl rfl ?_
    refine zv_getr hB zd98_155 rfl ?_
    refine zv_ild hB zd98_158 rfl rfl ?_
    refine zv_iald hB zd98_159 rfl rfl (zi_ix_ok c1).1 (zi_ix_ok c1).2 (fun _ _ => ?_)
    refine zv_ild hB zd98_160 rfl rfl ?_
    refine zv_shrw hB zd98_161 ?_
    refine zv_con hB zd98_162 rfl ?_
    refine zv_andw hB zd98_163 ?_
    refine zv_zeq hB zd98_164 rfl (fun hc3 => ?_) (fun hc3 => ?_)
    · rw [if_pos hc3] at h
      refine zv_con hB zd98_171 rfl ?_
      have hw := Option.some.inj h
      subst hw
      exact hret _ _ _ _ _ zd98_172 (by constructor <;> decide) ⟨rfl, rfl, rfl⟩
    · rw [if_neg hc3] at h
      refine zv_con hB zd98_167 rfl ?_
      refine zv_goto hB zd98_168 rfl ?_
      have hw := Option.some.inj h
      subst hw
      exact hret _ _ _ _ _ zd98_172 (by constructor <;> decide) ⟨rfl, rfl, rfl⟩
  · rw [if_pos hc2] at h
    refine zv_ald hB zd98_13 rfl rfl rfl ?_
    refine zv_getq hB zd98_14 rfl rfl rfl ?_
    refine zv_ald hB zd98_17 rfl rfl rfl ?_
    refine zv_getq hB zd98_18 rfl rfl rfl ?_
    refine zv_ild hB zd98_21 rfl rfl ?_
    obtain ⟨r4, hr4, h⟩ := zi_bind h
    refine zv_cv hB (zv_emq (va2 := [.inr 3, .inr 4, .inl x1]) (F := [.inr 3, .inr 4, .inl f2, .inl f3, .inl f4, .inl f5]) (F' := [.inr 3, .inr 4, .inl f2, .inl f3, .inl f4, .inl f5]) (G := [g0, g1, g2, g3, g4, g5, g6, g7, g8, g9, g10, g11]) (G' := [g0, g1, r4, g3, g4, g5, g6, g7, g8, g9, g10, g11]) (ρ := [3, 4, 5, 6, 7, 8]) (φ := [2]) (ψ := [2, 3, 4, 5]) [none, none, some 0, none, none, none] [none, none, some 0, some 1, some 2, some 3, none, none, none, none, none, none] zyw_Law_setStar zyw_View_isDrawn zye_View_isDrawn (by decide +kernel) (zt_Law_setStar hr4) ⟨⟨_, rfl, fun _ => rfl⟩, trivial⟩ ⟨rfl, rfl, rfl, rfl, trivial⟩ rfl rfl rfl rfl rfl rfl rfl) zd98_22 zxt92 rfl (by decide) (by decide) rfl ?_
    refine zv_ald hB zd98_25 rfl rfl rfl ?_
    refine zv_getq hB zd98_26 rfl rfl rfl ?_
    refine zv_ald hB zd98_29 rfl rfl rfl ?_
    refine zv_getq hB zd98_30 rfl rfl rfl ?_
    refine zv_ild hB zd98_33 rfl rfl ?_
    obtain ⟨r5, hr5, h⟩ := zi_bind h
    refine zv_cv hB (zv_emq (va2 := [.inr 3, .inr 4, .inl x2]) (F := [.inr 3, .inr 4, .inl f2, .inl f3, .inl f4, .inl f5]) (F' := [.inr 3, .inr 4, .inl f2, .inl f3, .inl f4, .inl f5]) (G := [g0, g1, r4, g3, g4, g5, g6, g7, g8, g9, g10, g11]) (G' := [g0, g1, r5, g3, g4, g5, g6, g7, g8, g9, g10, g11]) (ρ := [3, 4, 5, 6, 7, 8]) (φ := [2]) (ψ := [2, 3, 4, 5]) [none, none, some 0, none, none, none] [none, none, some 0, some 1, some 2, some 3, none, none, none, none, none, none] zyw_Law_setOther zyw_View_isDrawn zye_View_isDrawn (by decide +kernel) (zt_Law_setOther hr5) ⟨⟨_, rfl, fun _ => rfl⟩, trivial⟩ ⟨rfl, rfl, rfl, rfl, trivial⟩ rfl rfl rfl rfl rfl rfl rfl) zd98_34 zxt99 rfl (by decide) (by decide) rfl ?_
    refine zv_ald hB zd98_37 rfl rfl rfl ?_
    refine zv_getq hB zd98_38 rfl rfl rfl ?_
    refine zv_getr hB zd98_41 rfl ?_
    refine zv_con hB zd98_44 rfl ?_
    refine zv_ald hB zd98_46 rfl rfl rfl ?_
    refine zv_getq hB zd98_47 rfl rfl rfl ?_
    refine zv_getr hB zd98_50 rfl ?_
    refine zv_ild hB zd98_53 rfl rfl ?_
    refine zv_iald hB zd98_54 rfl rfl (zi_ix_ok c1).1 (zi_ix_ok c1).2 (fun _ _ => ?_)
    refine zv_ald hB zd98_55 rfl rfl rfl ?_
    refine zv_getq hB zd98_56 rfl rfl rfl ?_
    refine zv_getr hB zd98_59 rfl ?_
    refine zv_ild hB zd98_62 rfl rfl ?_
    obtain ⟨c6, h⟩ := zi_if h
    refine zv_iald hB zd98_63 rfl rfl (zi_ix_ok c6).1 (zi_ix_ok c6).2 (fun _ _ => ?_)
    obtain ⟨r7, hr7, h⟩ := zi_bind h
    refine zv_cs hB (zv_emq (va2 := [.inl (g5 x1), .inl (g5 x2)]) (F := [.inr 3, .inr 4, .inl f2, .inl f3, .inl f4, .inl f5]) (F' := [.inr 3, .inr 4, .inl f2, .inl f3, .inl f4, .inl f5]) (G := [g0, g1, r5, g3, g4, g5, g6, g7, g8, g9, g10, g11]) (G' := [g0, g1, r5, g3, g4, g5, g6, g7, g8, g9, g10, g11]) (ρ := []) (φ := []) (ψ := []) [none, none, none, none, none, none] [none, none, none, none, none, none, none, none, none, none, none, none] zyw_X_columnsBetween zyw_View_isDrawn zye_View_isDrawn (by decide +kernel) (zt_X_columnsBetween hr7) trivial trivial rfl rfl rfl rfl rfl rfl rfl) zd98_64 zxt90 rfl (by decide) (by decide) rfl ?_
    refine zv_ald hB zd98_67 rfl rfl rfl ?_
    refine zv_getq hB zd98_68 rfl rfl rfl ?_
    refine zv_getr hB zd98_71 rfl ?_
    refine zv_ild hB zd98_74 rfl rfl ?_
    refine zv_iald hB zd98_75 rfl rfl (zi_ix_ok c1).1 (zi_ix_ok c1).2 (fun _ _ => ?_)
    refine zv_ald hB zd98_76 rfl rfl rfl ?_
    refine zv_getq hB zd98_77 rfl rfl rfl ?_
    refine zv_getr hB zd98_80 rfl ?_
    refine zv_ild hB zd98_83 rfl rfl ?_
    refine zv_iald hB zd98_84 rfl rfl (zi_ix_ok c6).1 (zi_ix_ok c6).2 (fun _ _ => ?_)
    refine zv_subw hB zd98_85 ?_
    obtain ⟨r8, hr8, h⟩ := zi_bind h
    refine zv_cs hB (zv_emq (va2 := [.inl (zi_w ((g4 x1) - (g4 x2)))]) (F := [.inr 3, .inr 4, .inl f2, .inl f3, .inl f4, .inl f5]) (F' := [.inr 3, .inr 4, .inl f2, .inl f3, .inl f4, .inl f5]) (G := [g0, g1, r5, g3, g4, g5, g6, g7, g8, g9, g10, g11]) (G' := [g0, g1, r5, g3, g4, g5, g6, g7, g8, g9, g10, g11]) (ρ := []) (φ := []) (ψ := []) [none, none, none, none, none, none] [none, none, none, none, none, none, none, none, none, none, none, none] zyw_Math_abs zyw_View_isDrawn zye_View_isDrawn (by decide +kernel) (zt_Math_abs hr8) trivial trivial rfl rfl rfl rfl rfl rfl rfl) zd98_86 zxt91 rfl (by decide) (by decide) rfl ?_
    refine zv_addw hB zd98_89 ?_
    refine zv_iast hB zd98_90 rfl rfl (by decide) (by decide) ?_
    refine zv_ald hB zd98_91 rfl rfl rfl ?_
    refine zv_getq hB zd98_92 rfl rfl rfl ?_
    refine zv_con hB zd98_95 rfl ?_
    obtain ⟨r9, hr9, h⟩ := zi_bind h
    refine zv_cv hB (zv_emq (va2 := [.inr 3, .inl 106]) (F := [.inr 3, .inr 4, .inl f2, .inl f3, .inl f4, .inl f5]) (F' := [.inr 3, .inr 4, .inl f2, .inl f3, .inl r9.2.1, .inl f5]) (G := [g0, g1, (zv_up r5 12 (zi_w (r7 + r8))), g3, g4, g5, g6, g7, g8, g9, g10, g11]) (G' := [g0, g1, (zv_up r5 12 (zi_w (r7 + r8))), g3, g4, g5, g6, g7, g8, g9, r9.2.2, g11]) (ρ := [3, 9, 10, 11, 12, 13, 14, 5]) (φ := [3, 4]) (ψ := [6, 7, 8, 9, 10, 11, 2]) [none, none, none, some 0, some 1, none] [none, none, some 6, none, none, none, some 0, some 1, some 2, some 3, some 4, some 5] zyw_Law_anyHolds zyw_View_isDrawn zye_View_isDrawn (by decide +kernel) (zt_Law_anyHolds hr9) ⟨⟨_, rfl, fun _ => rfl⟩, ⟨_, rfl, fun _ => rfl⟩, trivial⟩ ⟨rfl, rfl, rfl, rfl, rfl, rfl, rfl, trivial⟩ rfl rfl rfl rfl rfl rfl rfl) zd98_97 zxt93 rfl (by decide) (by decide) rfl ?_
    refine zv_zeq hB zd98_100 rfl (fun hc10 => ?_) (fun hc10 => ?_)
    · rw [if_pos hc10] at h
      refine zv_ald hB zd98_118 rfl rfl rfl ?_
      refine zv_getr hB zd98_119 rfl ?_
      refine zv_ild hB zd98_122 rfl rfl ?_
      refine zv_dup2 hB zd98_123 rfl rfl ?_
      refine zv_iald hB zd98_124 rfl rfl (zi_ix_ok c1).1 (zi_ix_ok c1).2 (fun _ _ => ?_)
      refine zv_con hB zd98_125 rfl ?_
      refine zv_ild hB zd98_126 rfl rfl ?_
      refine zv_shlw hB zd98_127 ?_
      refine zv_con hB zd98_128 rfl ?_
      refine zv_xorw hB zd98_129 ?_
      refine zv_andw hB zd98_130 ?_
      refine zv_iast hB zd98_131 rfl rfl (zi_ix_ok c1).1 (zi_ix_ok c1).2 ?_
      refine zv_ald hB zd98_132 rfl rfl rfl ?_
      refine zv_getq hB zd98_133 rfl rfl rfl ?_
      refine zv_getf hB zd98_136 rfl rfl (fun _ _ => ?_)
      refine zv_zne hB zd98_139 rfl (fun hc11 => ?_) (fun hc11 => ?_)
      · rw [if_neg hc11] at h
        refine zv_ald hB zd98_154 rfl rfl rfl ?_
        refine zv_getr hB zd98_155 rfl ?_
        refine zv_ild hB zd98_158 rfl rfl ?_
        refine zv_iald hB zd98_159 rfl rfl (zi_ix_ok c1).1 (zi_ix_ok c1).2 (fun _ _ => ?_)
        refine zv_ild hB zd98_160 rfl rfl ?_
        refine zv_shrw hB zd98_161 ?_
        refine zv_con hB zd98_162 rfl ?_
        refine zv_andw hB zd98_163 ?_
        refine zv_zeq hB zd98_164 rfl (fun hc12 => ?_) (fun hc12 => ?_)
        · rw [if_pos hc12] at h
          refine zv_con hB zd98_171 rfl ?_
          have hw := Option.some.inj h
          subst hw
          exact hret _ _ _ _ _ zd98_172 (by constructor <;> decide) ⟨rfl, rfl, rfl⟩
        · rw [if_neg hc12] at h
          refine zv_con hB zd98_167 rfl ?_
          refine zv_goto hB zd98_168 rfl ?_
          have hw := Option.some.inj h
          subst hw
          exact hret _ _ _ _ _ zd98_172 (by constructor <;> decide) ⟨rfl, rfl, rfl⟩
      · rw [if_pos hc11] at h
        refine zv_ald hB zd98_142 rfl rfl rfl ?_
        refine zv_getr hB zd98_143 rfl ?_
        refine zv_ild hB zd98_146 rfl rfl ?_
        refine zv_dup2 hB zd98_147 rfl rfl ?_
        refine zv_iald hB zd98_148 rfl rfl (zi_ix_ok c1).1 (zi_ix_ok c1).2 (fun _ _ => ?_)
        refine zv_con hB zd98_149 rfl ?_
        refine zv_ild hB zd98_150 rfl rfl ?_
        refine zv_shlw hB zd98_151 ?_
        refine zv_orw hB zd98_152 ?_
        refine zv_iast hB zd98_153 rfl rfl (zi_ix_ok c1).1 (zi_ix_ok c1).2 ?_
        refine zv_ald hB zd98_154 rfl rfl rfl ?_
        refine zv_getr hB zd98_155 rfl ?_
        refine zv_ild hB zd98_158 rfl rfl ?_
        refine zv_iald hB zd98_159 rfl rfl (zi_ix_ok c1).1 (zi_ix_ok c1).2 (fun _ _ => ?_)
        refine zv_ild hB zd98_160 rfl rfl ?_
        refine zv_shrw hB zd98_161 ?_
        refine zv_con hB zd98_162 rfl ?_
        refine zv_andw hB zd98_163 ?_
        refine zv_zeq hB zd98_164 rfl (fun hc13 => ?_) (fun hc13 => ?_)
        · rw [if_pos hc13] at h
          refine zv_con hB zd98_171 rfl ?_
          have hw := Option.some.inj h
          subst hw
          exact hret _ _ _ _ _ zd98_172 (by constructor <;> decide) ⟨rfl, rfl, rfl⟩
        · rw [if_neg hc13] at h
          refine zv_con hB zd98_167 rfl ?_
          refine zv_goto hB zd98_168 rfl ?_
          have hw := Option.some.inj h
          subst hw
          exact hret _ _ _ _ _ zd98_172 (by constructor <;> decide) ⟨rfl, rfl, rfl⟩
    · rw [if_neg hc10] at h
      refine zv_ald hB zd98_103 rfl rfl rfl ?_
      refine zv_getr hB zd98_104 rfl ?_
      refine zv_ild hB zd98_107 rfl rfl ?_
      refine zv_dup2 hB zd98_108 rfl rfl ?_
      refine zv_iald hB zd98_109 rfl rfl (zi_ix_ok c1).1 (zi_ix_ok c1).2 (fun _ _ => ?_)
      refine zv_con hB zd98_110 rfl ?_
      refine zv_ild hB zd98_111 rfl rfl ?_
      refine zv_shlw hB zd98_112 ?_
      refine zv_orw hB zd98_113 ?_
      refine zv_iast hB zd98_114 rfl rfl (zi_ix_ok c1).1 (zi_ix_ok c1).2 ?_
      refine zv_goto hB zd98_115 rfl ?_
      refine zv_ald hB zd98_132 rfl rfl rfl ?_
      refine zv_getq hB zd98_133 rfl rfl rfl ?_
      refine zv_getf hB zd98_136 rfl rfl (fun _ _ => ?_)
      refine zv_zne hB zd98_139 rfl (fun hc14 => ?_) (fun hc14 => ?_)
      · rw [if_neg hc14] at h
        refine zv_ald hB zd98_154 rfl rfl rfl ?_
        refine zv_getr hB zd98_155 rfl ?_
        refine zv_ild hB zd98_158 rfl rfl ?_
        refine zv_iald hB zd98_159 rfl rfl (zi_ix_ok c1).1 (zi_ix_ok c1).2 (fun _ _ => ?_)
        refine zv_ild hB zd98_160 rfl rfl ?_
        refine zv_shrw hB zd98_161 ?_
        refine zv_con hB zd98_162 rfl ?_
        refine zv_andw hB zd98_163 ?_
        refine zv_zeq hB zd98_164 rfl (fun hc15 => ?_) (fun hc15 => ?_)
        · rw [if_pos hc15] at h
          refine zv_con hB zd98_171 rfl ?_
          have hw := Option.some.inj h
          subst hw
          exact hret _ _ _ _ _ zd98_172 (by constructor <;> decide) ⟨rfl, rfl, rfl⟩
        · rw [if_neg hc15] at h
          refine zv_con hB zd98_167 rfl ?_
          refine zv_goto hB zd98_168 rfl ?_
          have hw := Option.some.inj h
          subst hw
          exact hret _ _ _ _ _ zd98_172 (by constructor <;> decide) ⟨rfl, rfl, rfl⟩
      · rw [if_pos hc14] at h
        refine zv_ald hB zd98_142 rfl rfl rfl ?_
        refine zv_getr hB zd98_143 rfl ?_
        refine zv_ild hB zd98_146 rfl rfl ?_
        refine zv_dup2 hB zd98_147 rfl rfl ?_
        refine zv_iald hB zd98_148 rfl rfl (zi_ix_ok c1).1 (zi_ix_ok c1).2 (fun _ _ => ?_)
        refine zv_con hB zd98_149 rfl ?_
        refine zv_ild hB zd98_150 rfl rfl ?_
        refine zv_shlw hB zd98_151 ?_
        refine zv_orw hB zd98_152 ?_
        refine zv_iast hB zd98_153 rfl rfl (zi_ix_ok c1).1 (zi_ix_ok c1).2 ?_
        refine zv_ald hB zd98_154 rfl rfl rfl ?_
        refine zv_getr hB zd98_155 rfl ?_
        refine zv_ild hB zd98_158 rfl rfl ?_
        refine zv_iald hB zd98_159 rfl rfl (zi_ix_ok c1).1 (zi_ix_ok c1).2 (fun _ _ => ?_)
        refine zv_ild hB zd98_160 rfl rfl ?_
        refine zv_shrw hB zd98_161 ?_
        refine zv_con hB zd98_162 rfl ?_
        refine zv_andw hB zd98_163 ?_
        refine zv_zeq hB zd98_164 rfl (fun hc16 => ?_) (fun hc16 => ?_)
        · rw [if_pos hc16] at h
          refine zv_con hB zd98_171 rfl ?_
          have hw := Option.some.inj h
          subst hw
          exact hret _ _ _ _ _ zd98_172 (by constructor <;> decide) ⟨rfl, rfl, rfl⟩
        · rw [if_neg hc16] at h
          refine zv_con hB zd98_167 rfl ?_
          refine zv_goto hB zd98_168 rfl ?_
          have hw := Option.some.inj h
          subst hw
          exact hret _ _ _ _ _ zd98_172 (by constructor <;> decide) ⟨rfl, rfl, rfl⟩
/-! View_draw ()V -/
-- names: 0 View('arg', 0), 1 (0, 24)(0, 7, 5), 2 Law(0, 7, 1), 3 (0, 13)(2, 4, 12), 4 Sky(0, 7, 0), 5 (0, 24)(0, 7, 8), 6 (0, 24)(0, 7, 9), 7 (0, 24)(4, 1, 3), 8 (0, 24)(4, 1, 2), 9 (0, 24)(4, 1, 1), 10 (0, 14)(2, 4, 3), 11 (0, 14)(2, 4, 5), 12 (0, 14)(2, 4, 6), 13 (0, 200)(2, 4, 0), 14 (0, 40)(2, 4, 13), 15 (0, 200)(2, 4, 1)
-- fields: f0 = 0.law_, f1 = 2.tellsLines_, f2 = 0.x_, f3 = 0.y_, f4 = 0.sky_, f5 = 4.hour_, f6 = 4.night_, f7 = 0.shown_, f8 = 2.clauses_, f9 = 2.answer_, f10 = 2.linesByPlace_; arrays: g0 = 1, g1 = 3, g2 = 5, g3 = 6, g4 = 7, g5 = 8, g6 = 9, g7 = 10, g8 = 11, g9 = 12, g10 = 13, g11 = 14, g12 = 15; out: [('f', 2), ('f', 3), ('f', 9), ('g', 0), ('g', 1), ('g', 2), ('g', 3), ('g', 11)]
abbrev zy_View_draw : zNL := (16, [(0, 7), (2, 4), (4, 1)], [(0, 7, 1, 0), (2, 4, 9, 1), (0, 7, 2, 2), (0, 7, 3, 3), (0, 7, 0, 4), (4, 1, 6, 5), (4, 1, 7, 6), (0, 7, 4, 7), (2, 4, 7, 8), (2, 4, 14, 9), (2, 4, 11, 10)], [(0, 7, 5, 1), (2, 4, 12, 3), (0, 7, 8, 5), (0, 7, 9, 6), (4, 1, 3, 7), (4, 1, 2, 8), (4, 1, 1, 9), (2, 4, 3, 10), (2, 4, 5, 11), (2, 4, 6, 12), (2, 4, 0, 13), (2, 4, 13, 14), (2, 4, 1, 15)], [(1, 0, 24, 0), (3, 0, 13, 1), (5, 0, 24, 2), (6, 0, 24, 3), (7, 0, 24, 4), (8, 0, 24, 5), (9, 0, 24, 6), (10, 0, 14, 7), (11, 0, 14, 8), (12, 0, 14, 9), (13, 0, 200, 10), (14, 0, 40, 11), (15, 0, 200, 12)])
theorem zyw_View_draw : zv_wf zy_View_draw = true := by decide +kernel
theorem zye_View_draw : zv_ek2 zy_View_draw = true := by decide +kernel
def zf_View_draw_l1_b (x1 : Int) (f5 : Int) (f7 : Int) (f8 : Int) (f10 : Int) (g4 : (Int → Int)) (g5 : (Int → Int)) (g6 : (Int → Int)) (g7 : (Int → Int)) (g8 : (Int → Int)) (g9 : (Int → Int)) (g10 : (Int → Int)) (g12 : (Int → Int)) (rec : Int → Int → (Int → Int) → (Int → Int) → (Int → Int) → (Int → Int) → (Int → Int) → Option (Int × (Int → Int) × (Int → Int) × (Int → Int) × (Int → Int) × (Int → Int))) (x2 : Int) (f9 : Int) (g0 : (Int → Int)) (g1 : (Int → Int)) (g2 : (Int → Int)) (g3 : (Int → Int)) (g11 : (Int → Int)) : Option (Int × (Int → Int) × (Int → Int) × (Int → Int) × (Int → Int) × (Int → Int)) := if x2 < 24 then (if (zi_and (zi_shr f7 x1) 1) = 0 then (some (f9, g0, g1, g2, g3, g11)) else (if (zi_and (zi_shr f7 x2) 1) = 0 then (rec (zi_w (x2 + 1)) f9 g0 g1 g2 g3 g11) else ((zf_View_isDrawn x1 x2 f5 f8 f9 f10 g2 g3 g1 g4 g5 g6 g7 g8 g9 g10 g11 g12).bind fun r8 => (if r8.1 = 0 then (rec (zi_w (x2 + 1)) r8.2.1 g0 r8.2.2.2.2.1 r8.2.2.1 r8.2.2.2.1 r8.2.2.2.2.2) else (cond (zi_ix x1 24) (cond (zi_ix x2 24) (rec (zi_w (x2 + 1)) r8.2.1 (zv_up (zv_up g0 x1 (zi_or (g0 x1) (zi_shl 1 x2))) x2 (zi_or ((zv_up g0 x1 (zi_or (g0 x1) (zi_shl 1 x2))) x2) (zi_shl 1 x1))) r8.2.2.2.2.1 r8.2.2.1 r8.2.2.2.1 r8.2.2.2.2.2) none) none))))) else (some (f9, g0, g1, g2, g3, g11))
def zf_View_draw_l1 (x1 : Int) (f5 : Int) (f7 : Int) (f8 : Int) (f10 : Int) (g4 : (Int → Int)) (g5 : (Int → Int)) (g6 : (Int → Int)) (g7 : (Int → Int)) (g8 : (Int → Int)) (g9 : (Int → Int)) (g10 : (Int → Int)) (g12 : (Int → Int)) : Nat → Int → Int → (Int → Int) → (Int → Int) → (Int → Int) → (Int → Int) → (Int → Int) → Option (Int × (Int → Int) × (Int → Int) × (Int → Int) × (Int → Int) × (Int → Int))
  | 0, _, _, _, _, _, _, _ => none
  | n + 1, x2, f9, g0, g1, g2, g3, g11 => zf_View_draw_l1_b x1 f5 f7 f8 f10 g4 g5 g6 g7 g8 g9 g10 g12 (zf_View_draw_l1 x1 f5 f7 f8 f10 g4 g5 g6 g7 g8 g9 g10 g12 n) x2 f9 g0 g1 g2 g3 g11
def zf_View_draw_l0_b (f5 : Int) (f7 : Int) (f8 : Int) (f10 : Int) (g4 : (Int → Int)) (g5 : (Int → Int)) (g6 : (Int → Int)) (g7 : (Int → Int)) (g8 : (Int → Int)) (g9 : (Int → Int)) (g10 : (Int → Int)) (g12 : (Int → Int)) (rec : Int → Int → (Int → Int) → (Int → Int) → (Int → Int) → (Int → Int) → (Int → Int) → Option (Int × (Int → Int) × (Int → Int) × (Int → Int) × (Int → Int) × (Int → Int))) (x1 : Int) (f9 : Int) (g0 : (Int → Int)) (g1 : (Int → Int)) (g2 : (Int → Int)) (g3 : (Int → Int)) (g11 : (Int → Int)) : Option (Int × (Int → Int) × (Int → Int) × (Int → Int) × (Int → Int) × (Int → Int)) := if x1 < 24 then ((zf_View_draw_l1 x1 f5 f7 f8 f10 g4 g5 g6 g7 g8 g9 g10 g12 zi_fu (zi_w (x1 + 1)) f9 g0 g1 g2 g3 g11).bind fun q12 => (rec (zi_w (x1 + 1)) q12.1 q12.2.1 q12.2.2.1 q12.2.2.2.1 q12.2.2.2.2.1 q12.2.2.2.2.2)) else (some (f9, g0, g1, g2, g3, g11))
def zf_View_draw_l0 (f5 : Int) (f7 : Int) (f8 : Int) (f10 : Int) (g4 : (Int → Int)) (g5 : (Int → Int)) (g6 : (Int → Int)) (g7 : (Int → Int)) (g8 : (Int → Int)) (g9 : (Int → Int)) (g10 : (Int → Int)) (g12 : (Int → Int)) : Nat → Int → Int → (Int → Int) → (Int → Int) → (Int → Int) → (Int → Int) → (Int → Int) → Option (Int × (Int → Int) × (Int → Int) × (Int → Int) × (Int → Int) × (Int → Int))
  | 0, _, _, _, _, _, _, _ => none
  | n + 1, x1, f9, g0, g1, g2, g3, g11 => zf_View_draw_l0_b f5 f7 f8 f10 g4 g5 g6 g7 g8 g9 g10 g12 (zf_View_draw_l0 f5 f7 f8 f10 g4 g5 g6 g7 g8 g9 g10 g12 n) x1 f9 g0 g1 g2 g3 g11
def zf_View_draw (f1 : Int) (f2 : Int) (f3 : Int) (f5 : Int) (f6 : Int) (f7 : Int) (f8 : Int) (f9 : Int) (f10 : Int) (g0 : (Int → Int)) (g1 : (Int → Int)) (g2 : (Int → Int)) (g3 : (Int → Int)) (g4 : (Int → Int)) (g5 : (Int → Int)) (g6 : (Int → Int)) (g7 : (Int → Int)) (g8 : (Int → Int)) (g9 : (Int → Int)) (g10 : (Int → Int)) (g11 : (Int → Int)) (g12 : (Int → Int)) : Option (Int × Int × Int × (Int → Int) × (Int → Int) × (Int → Int) × (Int → Int) × (Int → Int)) := (zf_Arrays_fill_24 0 g0).bind fun r1 => (if f1 = 0 then (some (f2, f3, f9, r1, g1, g2, g3, g11)) else ((zf_View_goTo f2 f3 f2 f3 f5 f6 g1).bind fun r3 => ((zf_View_draw_l0 f5 f7 f8 f10 g4 g5 g6 g7 g8 g9 g10 g12 zi_fu 0 f9 r1 r3.2.2 g2 g3 g11).bind fun q13 => (some (r3.1, r3.2.1, q13.1, q13.2.1, q13.2.2.1, q13.2.2.2.1, q13.2.2.2.2.1, q13.2.2.2.2.2)))))
theorem zd97_0 : decode zxm97.2.1 0 = .ok (.aload_n 0, 1) := by decide +kernel
theorem zd97_1 : decode zxm97.2.1 1 = .ok (.getfield 21, 3) := by decide +kernel
theorem zd97_4 : decode zxm97.2.1 4 = .ok (.iconst 0, 1) := by decide +kernel
theorem zd97_5 : decode zxm97.2.1 5 = .ok (.invokestatic 45, 3) := by decide +kernel
theorem zd97_8 : decode zxm97.2.1 8 = .ok (.aload_n 0, 1) := by decide +kernel
theorem zd97_9 : decode zxm97.2.1 9 = .ok (.getfield 41, 3) := by decide +kernel
theorem zd97_12 : decode zxm97.2.1 12 = .ok (.getfield 115, 3) := by decide +kernel
theorem zd97_15 : decode zxm97.2.1 15 = .ok (.ifCond .ne 4, 3) := by decide +kernel
theorem zd97_18 : decode zxm97.2.1 18 = .ok (.return_, 1) := by decide +kernel
theorem zd97_19 : decode zxm97.2.1 19 = .ok (.aload_n 0, 1) := by decide +kernel
theorem zd97_20 : decode zxm97.2.1 20 = .ok (.aload_n 0, 1) := by decide +kernel
theorem zd97_21 : decode zxm97.2.1 21 = .ok (.getfield 9, 3) := by decide +kernel
theorem zd97_24 : decode zxm97.2.1 24 = .ok (.aload_n 0, 1) := by decide +kernel
theorem zd97_25 : decode zxm97.2.1 25 = .ok (.getfield 15, 3) := by decide +kernel
theorem zd97_28 : decode zxm97.2.1 28 = .ok (.invokevirtual 63, 3) := by decide +kernel
theorem zd97_31 : decode zxm97.2.1 31 = .ok (.iconst 0, 1) := by decide +kernel
theorem zd97_32 : decode zxm97.2.1 32 = .ok (.istore_n 1, 1) := by decide +kernel
theorem zd97_33 : decode zxm97.2.1 33 = .ok (.iload_n 1, 1) := by decide +kernel
theorem zd97_34 : decode zxm97.2.1 34 = .ok (.bipush 24, 2) := by decide +kernel
theorem zd97_36 : decode zxm97.2.1 36 = .ok (.if_icmp .ge 80, 3) := by decide +kernel
theorem zd97_39 : decode zxm97.2.1 39 = .ok (.iload_n 1, 1) := by decide +kernel
theorem zd97_40 : decode zxm97.2.1 40 = .ok (.iconst 1, 1) := by decide +kernel
theorem zd97_41 : decode zxm97.2.1 41 = .ok (.iadd, 1) := by decide +kernel
theorem zd97_42 : decode zxm97.2.1 42 = .ok (.istore_n 2, 1) := by decide +kernel
theorem zd97_43 : decode zxm97.2.1 43 = .ok (.iload_n 2, 1) := by decide +kernel
theorem zd97_44 : decode zxm97.2.1 44 = .ok (.bipush 24, 2) := by decide +kernel
theorem zd97_46 : decode zxm97.2.1 46 = .ok (.if_icmp .ge 64, 3) := by decide +kernel
theorem zd97_49 : decode zxm97.2.1 49 = .ok (.aload_n 0, 1) := by decide +kernel
theorem zd97_50 : decode zxm97.2.1 50 = .ok (.getfield 18, 3) := by decide +kernel
theorem zd97_53 : decode zxm97.2.1 53 = .ok (.iload_n 1, 1) := by decide +kernel
theorem zd97_54 : decode zxm97.2.1 54 = .ok (.ishr, 1) := by decide +kernel
theorem zd97_55 : decode zxm97.2.1 55 = .ok (.iconst 1, 1) := by decide +kernel
theorem zd97_56 : decode zxm97.2.1 56 = .ok (.iand, 1) := by decide +kernel
theorem zd97_57 : decode zxm97.2.1 57 = .ok (.ifCond .eq 53, 3) := by decide +kernel
theorem zd97_60 : decode zxm97.2.1 60 = .ok (.aload_n 0, 1) := by decide +kernel
theorem zd97_61 : decode zxm97.2.1 61 = .ok (.getfield 18, 3) := by decide +kernel
theorem zd97_64 : decode zxm97.2.1 64 = .ok (.iload_n 2, 1) := by decide +kernel
theorem zd97_65 : decode zxm97.2.1 65 = .ok (.ishr, 1) := by decide +kernel
theorem zd97_66 : decode zxm97.2.1 66 = .ok (.iconst 1, 1) := by decide +kernel
theorem zd97_67 : decode zxm97.2.1 67 = .ok (.iand, 1) := by decide +kernel
theorem zd97_68 : decode zxm97.2.1 68 = .ok (.ifCond .eq 36, 3) := by decide +kernel
theorem zd97_71 : decode zxm97.2.1 71 = .ok (.aload_n 0, 1) := by decide +kernel
theorem zd97_72 : decode zxm97.2.1 72 = .ok (.iload_n 1, 1) := by decide +kernel
theorem zd97_73 : decode zxm97.2.1 73 = .ok (.iload_n 2, 1) := by decide +kernel
theorem zd97_74 : decode zxm97.2.1 74 = .ok (.invokevirtual 118, 3) := by decide +kernel
theorem zd97_77 : decode zxm97.2.1 77 = .ok (.ifCond .eq 27, 3) := by decide +kernel
theorem zd97_80 : decode zxm97.2.1 80 = .ok (.aload_n 0, 1) := by decide +kernel
theorem zd97_81 : decode zxm97.2.1 81 = .ok (.getfield 21, 3) := by decide +kernel
theorem zd97_84 : decode zxm97.2.1 84 = .ok (.iload_n 1, 1) := by decide +kernel
theorem zd97_85 : decode zxm97.2.1 85 = .ok (.dup2, 1) := by decide +kernel
theorem zd97_86 : decode zxm97.2.1 86 = .ok (.iaload, 1) := by decide +kernel
theorem zd97_87 : decode zxm97.2.1 87 = .ok (.iconst 1, 1) := by decide +kernel
theorem zd97_88 : decode zxm97.2.1 88 = .ok (.iload_n 2, 1) := by decide +kernel
theorem zd97_89 : decode zxm97.2.1 89 = .ok (.ishl, 1) := by decide +kernel
theorem zd97_90 : decode zxm97.2.1 90 = .ok (.ior, 1) := by decide +kernel
theorem zd97_91 : decode zxm97.2.1 91 = .ok (.iastore, 1) := by decide +kernel
theorem zd97_92 : decode zxm97.2.1 92 = .ok (.aload_n 0, 1) := by decide +kernel
theorem zd97_93 : decode zxm97.2.1 93 = .ok (.getfield 21, 3) := by decide +kernel
theorem zd97_96 : decode zxm97.2.1 96 = .ok (.iload_n 2, 1) := by decide +kernel
theorem zd97_97 : decode zxm97.2.1 97 = .ok (.dup2, 1) := by decide +kernel
theorem zd97_98 : decode zxm97.2.1 98 = .ok (.iaload, 1) := by decide +kernel
theorem zd97_99 : decode zxm97.2.1 99 = .ok (.iconst 1, 1) := by decide +kernel
theorem zd97_100 : decode zxm97.2.1 100 = .ok (.iload_n 1, 1) := by decide +kernel
theorem zd97_101 : decode zxm97.2.1 101 = .ok (.ishl, 1) := by decide +kernel
theorem zd97_102 : decode zxm97.2.1 102 = .ok (.ior, 1) := by decide +kernel
theorem zd97_103 : decode zxm97.2.1 103 = .ok (.iastore, 1) := by decide +kernel
theorem zd97_104 : decode zxm97.2.1 104 = .ok (.iinc 2 1, 3) := by decide +kernel
theorem zd97_107 : decode zxm97.2.1 107 = .ok (.goto (-64), 3) := by decide +kernel
theorem zd97_110 : decode zxm97.2.1 110 = .ok (.iinc 1 1, 3) := by decide +kernel
theorem zd97_113 : decode zxm97.2.1 113 = .ok (.goto (-80), 3) := by decide +kernel
theorem zd97_116 : decode zxm97.2.1 116 = .ok (.return_, 1) := by decide +kernel
theorem zt_View_draw {f1 : Int} {f2 : Int} {f3 : Int} {f5 : Int} {f6 : Int} {f7 : Int} {f8 : Int} {f9 : Int} {f10 : Int} {g0 : (Int → Int)} {g1 : (Int → Int)} {g2 : (Int → Int)} {g3 : (Int → Int)} {g4 : (Int → Int)} {g5 : (Int → Int)} {g6 : (Int → Int)} {g7 : (Int → Int)} {g8 : (Int → Int)} {g9 : (Int → Int)} {g10 : (Int → Int)} {g11 : (Int → Int)} {g12 : (Int → Int)} {o : Int × Int × Int × (Int → Int) × (Int → Int) × (Int → Int) × (Int → Int) × (Int → Int)} (h : zf_View_draw f1 f2 f3 f5 f6 f7 f8 f9 f10 g0 g1 g2 g3 g4 g5 g6 g7 g8 g9 g10 g11 g12 = some o) : zv_Fn z_TB z_cl z_KX zy_View_draw zxm97 (4, 240) [.inr 0] [.inr 2, .inl f1, .inl f2, .inl f3, .inr 4, .inl f5, .inl f6, .inl f7, .inl f8, .inl f9, .inl f10] [g0, g1, g2, g3, g4, g5, g6, g7, g8, g9, g10, g11, g12] none [.inr 2, .inl f1, .inl o.1, .inl o.2.1, .inr 4, .inl f5, .inl f6, .inl f7, .inl f8, .inl o.2.2.1, .inl f10] [o.2.2.2.1, o.2.2.2.2.1, o.2.2.2.2.2.1, o.2.2.2.2.2.2.1, g4, g5, g6, g7, g8, g9, g10, o.2.2.2.2.2.2.2, g12] := zv_meth (K := (z_KF11, z_KC11, z_KL11, z_KT11, [], [], [], none)) (FT := z_FT) (MT := z_MT) (n := 1) zxp97 (z_ks11 _ (fun _ h => List.mem_cons_of_mem _ h) _ _ _ _ (fun j r h _ => by cases h)) (fun _ _ => zs_KX_p) zyw_View_draw (fun va F G h => by obtain ⟨rfl, _⟩ := h; rfl) (fun va F G h => by obtain ⟨rfl, _⟩ := h; rfl) rfl fun good va F G hB hret hvret hP => by
  obtain ⟨rfl, rfl, rfl⟩ := hP
  have l1 : ∀ (n : Nat) (x1 : Int) (x2 : Int) (f2 : Int) (f3 : Int) (f9 : Int) (g0 : (Int → Int)) (g1 : (Int → Int)) (g2 : (Int → Int)) (g3 : (Int → Int)) (g11 : (Int → Int)) (q : Int × (Int → Int) × (Int → Int) × (Int → Int) × (Int → Int) × (Int → Int)), zf_View_draw_l1 x1 f5 f7 f8 f10 g4 g5 g6 g7 g8 g9 g10 g12 n x2 f9 g0 g1 g2 g3 g11 = some q → (good 110 [.inr 0, .inl x1, .inr 1000] [] [.inr 2, .inl f1, .inl f2, .inl f3, .inr 4, .inl f5, .inl f6, .inl f7, .inl f8, .inl q.1, .inl f10] [q.2.1, q.2.2.1, q.2.2.2.1, q.2.2.2.2.1, g4, g5, g6, g7, g8, g9, g10, q.2.2.2.2.2, g12]) → good 43 [.inr 0, .inl x1, .inl x2] [] [.inr 2, .inl f1, .inl f2, .inl f3, .inr 4, .inl f5, .inl f6, .inl f7, .inl f8, .inl f9, .inl f10] [g0, g1, g2, g3, g4, g5, g6, g7, g8, g9, g10, g11, g12] := by
    intro n
    induction n with
    | zero => intro x1 x2 f2 f3 f9 g0 g1 g2 g3 g11 q h; exact absurd (show none = some q from h) (fun h => by cases h)
    | succ n ih =>
      intro x1 x2 f2 f3 f9 g0 g1 g2 g3 g11 q h hK
      replace h : zf_View_draw_l1_b x1 f5 f7 f8 f10 g4 g5 g6 g7 g8 g9 g10 g12 (zf_View_draw_l1 x1 f5 f7 f8 f10 g4 g5 g6 g7 g8 g9 g10 g12 n) x2 f9 g0 g1 g2 g3 g11 = some q := h
      unfold zf_View_draw_l1_b at h
      refine zv_ild hB zd97_43 rfl rfl ?_
      refine zv_con hB zd97_44 rfl ?_
      refine zv_cge hB zd97_46 rfl (fun hc5 => ?_) (fun hc5 => ?_)
      · rw [if_neg (Int.not_lt.mpr hc5)] at h
        have hq := Option.some.inj h
        subst hq
        refine zv_wk hB (L' := [.inr 0, .inl x1, .inr 1000]) (F' := [.inr 2, .inl f1, .inl f2, .inl f3, .inr 4, .inl f5, .inl f6, .inl f7, .inl f8, .inl f9, .inl f10]) ⟨fun _ => rfl, fun _ => rfl, fun (h : zv_is (.inr 1000)) => (Nat.lt_irrefl 1000 h).elim, trivial⟩ ⟨fun _ => rfl, fun _ => rfl, fun _ => rfl, fun _ => rfl, fun _ => rfl, fun _ => rfl, fun _ => rfl, fun _ => rfl, fun _ => rfl, fun _ => rfl, fun _ => rfl, trivial⟩ ?_
        exact hK
      · rw [if_pos hc5] at h
        refine zv_ald hB zd97_49 rfl rfl rfl ?_
        refine zv_getf hB zd97_50 rfl rfl (fun _ _ => ?_)
        refine zv_ild hB zd97_53 rfl rfl ?_
        refine zv_shrw hB zd97_54 ?_
        refine zv_con hB zd97_55 rfl ?_
        refine zv_andw hB zd97_56 ?_
        refine zv_zeq hB zd97_57 rfl (fun hc6 => ?_) (fun hc6 => ?_)
        · rw [if_pos hc6] at h
          have hq := Option.some.inj h
          subst hq
          refine zv_wk hB (L' := [.inr 0, .inl x1, .inr 1000]) (F' := [.inr 2, .inl f1, .inl f2, .inl f3, .inr 4, .inl f5, .inl f6, .inl f7, .inl f8, .inl f9, .inl f10]) ⟨fun _ => rfl, fun _ => rfl, fun (h : zv_is (.inr 1000)) => (Nat.lt_irrefl 1000 h).elim, trivial⟩ ⟨fun _ => rfl, fun _ => rfl, fun _ => rfl, fun _ => rfl, fun _ => rfl, fun _ => rfl, fun _ => rfl, fun _ => rfl, fun _ => rfl, fun _ => rfl, fun _ => rfl, trivial⟩ ?_
          exact hK
        · rw [if_neg hc6] at h
          refine zv_ald hB zd97_60 rfl rfl rfl ?_
          refine zv_getf hB zd97_61 rfl rfl (fun _ _ => ?_)
          refine zv_ild hB zd97_64 rfl rfl ?_
          refine zv_shrw hB zd97_65 ?_
          refine zv_con hB zd97_66 rfl ?_
          refine zv_andw hB zd97_67 ?_
          refine zv_zeq hB zd97_68 rfl (fun hc7 => ?_) (fun hc7 => ?_)
          · rw [if_pos hc7] at h
            refine zv_iincw hB zd97_104 rfl rfl ?_
            refine zv_goto hB zd97_107 rfl ?_
            exact ih _ _ _ _ _ _ _ _ _ _ q h hK
          · rw [if_neg hc7] at h
            refine zv_ald hB zd97_71 rfl rfl rfl ?_
            refine zv_ild hB zd97_72 rfl rfl ?_
            refine zv_ild hB zd97_73 rfl rfl ?_
            obtain ⟨r8, hr8, h⟩ := zi_bind h
            refine zv_cv hB (zv_emq (va2 := [.inr 0, .inl x1, .inl x2]) (F := [.inr 2, .inl f1, .inl f2, .inl f3, .inr 4, .inl f5, .inl f6, .inl f7, .inl f8, .inl f9, .inl f10]) (F' := [.inr 2, .inl f1, .inl f2, .inl f3, .inr 4, .inl f5, .inl f6, .inl f7, .inl f8, .inl r8.2.1, .inl f10]) (G := [g0, g1, g2, g3, g4, g5, g6, g7, g8, g9, g10, g11, g12]) (G' := [g0, r8.2.2.2.2.1, r8.2.2.1, r8.2.2.2.1, g4, g5, g6, g7, g8, g9, g10, r8.2.2.2.2.2, g12]) (ρ := [0, 5, 6, 2, 4, 3, 7, 8, 9, 10, 11, 12, 13, 14, 15]) (φ := [0, 4, 5, 8, 9, 10]) (ψ := [2, 3, 1, 4, 5, 6, 7, 8, 9, 10, 11, 12]) [some 0, none, none, none, some 1, some 2, none, none, some 3, some 4, some 5] [none, some 2, some 0, some 1, some 3, some 4, some 5, some 6, some 7, some 8, some 9, some 10, some 11] zyw_View_isDrawn zyw_View_draw zye_View_draw (by decide +kernel) (zt_View_isDrawn hr8) ⟨⟨_, rfl, fun _ => rfl⟩, ⟨_, rfl, fun _ => rfl⟩, ⟨_, rfl, fun _ => rfl⟩, ⟨_, rfl, fun _ => rfl⟩, ⟨_, rfl, fun _ => rfl⟩, ⟨_, rfl, fun _ => rfl⟩, trivial⟩ ⟨rfl, rfl, rfl, rfl, rfl, rfl, rfl, rfl, rfl, rfl, rfl, rfl, trivial⟩ rfl rfl rfl rfl rfl rfl rfl) zd97_74 zxt98 rfl (by decide) (by decide) rfl ?_
            refine zv_zeq hB zd97_77 rfl (fun hc9 => ?_) (fun hc9 => ?_)
            · rw [if_pos hc9] at h
              refine zv_iincw hB zd97_104 rfl rfl ?_
              refine zv_goto hB zd97_107 rfl ?_
              exact ih _ _ _ _ _ _ _ _ _ _ q h hK
            · rw [if_neg hc9] at h
              refine zv_ald hB zd97_80 rfl rfl rfl ?_
              refine zv_getr hB zd97_81 rfl ?_
              refine zv_ild hB zd97_84 rfl rfl ?_
              refine zv_dup2 hB zd97_85 rfl rfl ?_
              obtain ⟨c10, h⟩ := zi_if h
              refine zv_iald hB zd97_86 rfl rfl (zi_ix_ok c10).1 (zi_ix_ok c10).2 (fun _ _ => ?_)
              refine zv_con hB zd97_87 rfl ?_
              refine zv_ild hB zd97_88 rfl rfl ?_
              refine zv_shlw hB zd97_89 ?_
              refine zv_orw hB zd97_90 ?_
              refine zv_iast hB zd97_91 rfl rfl (zi_ix_ok c10).1 (zi_ix_ok c10).2 ?_
              refine zv_ald hB zd97_92 rfl rfl rfl ?_
              refine zv_getr hB zd97_93 rfl ?_
              refine zv_ild hB zd97_96 rfl rfl ?_
              refine zv_dup2 hB zd97_97 rfl rfl ?_
              obtain ⟨c11, h⟩ := zi_if h
              refine zv_iald hB zd97_98 rfl rfl (zi_ix_ok c11).1 (zi_ix_ok c11).2 (fun _ _ => ?_)
              refine zv_con hB zd97_99 rfl ?_
              refine zv_ild hB zd97_100 rfl rfl ?_
              refine zv_shlw hB zd97_101 ?_
              refine zv_orw hB zd97_102 ?_
              refine zv_iast hB zd97_103 rfl rfl (zi_ix_ok c11).1 (zi_ix_ok c11).2 ?_
              refine zv_iincw hB zd97_104 rfl rfl ?_
              refine zv_goto hB zd97_107 rfl ?_
              exact ih _ _ _ _ _ _ _ _ _ _ q h hK
  have l0 : ∀ (n : Nat) (x1 : Int) (f2 : Int) (f3 : Int) (f9 : Int) (g0 : (Int → Int)) (g1 : (Int → Int)) (g2 : (Int → Int)) (g3 : (Int → Int)) (g11 : (Int → Int)) (q : Int × (Int → Int) × (Int → Int) × (Int → Int) × (Int → Int) × (Int → Int)), zf_View_draw_l0 f5 f7 f8 f10 g4 g5 g6 g7 g8 g9 g10 g12 n x1 f9 g0 g1 g2 g3 g11 = some q → (good 116 [.inr 1000, .inr 1000, .inr 1000] [] [.inr 2, .inl f1, .inl f2, .inl f3, .inr 4, .inl f5, .inl f6, .inl f7, .inl f8, .inl q.1, .inl f10] [q.2.1, q.2.2.1, q.2.2.2.1, q.2.2.2.2.1, g4, g5, g6, g7, g8, g9, g10, q.2.2.2.2.2, g12]) → good 33 [.inr 0, .inl x1, .inr 1000] [] [.inr 2, .inl f1, .inl f2, .inl f3, .inr 4, .inl f5, .inl f6, .inl f7, .inl f8, .inl f9, .inl f10] [g0, g1, g2, g3, g4, g5, g6, g7, g8, g9, g10, g11, g12] := by
    intro n
    induction n with
    | zero => intro x1 f2 f3 f9 g0 g1 g2 g3 g11 q h; exact absurd (show none = some q from h) (fun h => by cases h)
    | succ n ih =>
      intro x1 f2 f3 f9 g0 g1 g2 g3 g11 q h hK
      replace h : zf_View_draw_l0_b f5 f7 f8 f10 g4 g5 g6 g7 g8 g9 g10 g12 (zf_View_draw_l0 f5 f7 f8 f10 g4 g5 g6 g7 g8 g9 g10 g12 n) x1 f9 g0 g1 g2 g3 g11 = some q := h
      unfold zf_View_draw_l0_b at h
      refine zv_ild hB zd97_33 rfl rfl ?_
      refine zv_con hB zd97_34 rfl ?_
      refine zv_cge hB zd97_36 rfl (fun hc4 => ?_) (fun hc4 => ?_)
      · rw [if_neg (Int.not_lt.mpr hc4)] at h
        have hq := Option.some.inj h
        subst hq
        refine zv_wk hB (L' := [.inr 1000, .inr 1000, .inr 1000]) (F' := [.inr 2, .inl f1, .inl f2, .inl f3, .inr 4, .inl f5, .inl f6, .inl f7, .inl f8, .inl f9, .inl f10]) ⟨fun (h : zv_is (.inr 1000)) => (Nat.lt_irrefl 1000 h).elim, fun (h : zv_is (.inr 1000)) => (Nat.lt_irrefl 1000 h).elim, fun (h : zv_is (.inr 1000)) => (Nat.lt_irrefl 1000 h).elim, trivial⟩ ⟨fun _ => rfl, fun _ => rfl, fun _ => rfl, fun _ => rfl, fun _ => rfl, fun _ => rfl, fun _ => rfl, fun _ => rfl, fun _ => rfl, fun _ => rfl, fun _ => rfl, trivial⟩ ?_
        exact hK
      · rw [if_pos hc4] at h
        refine zv_ild hB zd97_39 rfl rfl ?_
        refine zv_con hB zd97_40 rfl ?_
        refine zv_addw hB zd97_41 ?_
        refine zv_ist hB zd97_42 rfl rfl rfl ?_
        obtain ⟨q12, hq12, h⟩ := zi_bind h
        refine l1 _ _ _ _ _ _ _ _ _ _ _ q12 hq12 ?_
        show good 110 [.inr 0, .inl x1, .inr 1000] [] [.inr 2, .inl f1, .inl f2, .inl f3, .inr 4, .inl f5, .inl f6, .inl f7, .inl f8, .inl q12.1, .inl f10] [q12.2.1, q12.2.2.1, q12.2.2.2.1, q12.2.2.2.2.1, g4, g5, g6, g7, g8, g9, g10, q12.2.2.2.2.2, g12]
        refine zv_iincw hB zd97_110 rfl rfl ?_
        refine zv_goto hB zd97_113 rfl ?_
        exact ih _ _ _ _ _ _ _ _ _ q h hK
  unfold zf_View_draw at h
  refine zv_ald hB zd97_0 rfl rfl rfl ?_
  refine zv_getr hB zd97_1 rfl ?_
  refine zv_con hB zd97_4 rfl ?_
  obtain ⟨r1, hr1, h⟩ := zi_bind h
  refine zv_cs hB (zv_emq (va2 := [.inr 1, .inl 0]) (F := [.inr 2, .inl f1, .inl f2, .inl f3, .inr 4, .inl f5, .inl f6, .inl f7, .inl f8, .inl f9, .inl f10]) (F' := [.inr 2, .inl f1, .inl f2, .inl f3, .inr 4, .inl f5, .inl f6, .inl f7, .inl f8, .inl f9, .inl f10]) (G := [g0, g1, g2, g3, g4, g5, g6, g7, g8, g9, g10, g11, g12]) (G' := [r1, g1, g2, g3, g4, g5, g6, g7, g8, g9, g10, g11, g12]) (ρ := [1]) (φ := []) (ψ := [0]) [none, none, none, none, none, none, none, none, none, none, none] [some 0, none, none, none, none, none, none, none, none, none, none, none, none] zyw_Arrays_fill_24 zyw_View_draw zye_View_draw (by decide +kernel) (zt_Arrays_fill_24 hr1) trivial ⟨rfl, trivial⟩ rfl rfl rfl rfl rfl rfl rfl) zd97_5 zxt78 rfl (by decide) (by decide) rfl ?_
  refine zv_ald hB zd97_8 rfl rfl rfl ?_
  refine zv_getq hB zd97_9 rfl rfl rfl ?_
  refine zv_getf hB zd97_12 rfl rfl (fun _ _ => ?_)
  refine zv_zne hB zd97_15 rfl (fun hc2 => ?_) (fun hc2 => ?_)
  · rw [if_neg hc2] at h
    refine zv_ald hB zd97_19 rfl rfl rfl ?_
    refine zv_ald hB zd97_20 rfl rfl rfl ?_
    refine zv_getf hB zd97_21 rfl rfl (fun _ _ => ?_)
    refine zv_ald hB zd97_24 rfl rfl rfl ?_
    refine zv_getf hB zd97_25 rfl rfl (fun _ _ => ?_)
    obtain ⟨r3, hr3, h⟩ := zi_bind h
    refine zv_cv hB (zv_emq (va2 := [.inr 0, .inl f2, .inl f3]) (F := [.inr 2, .inl f1, .inl f2, .inl f3, .inr 4, .inl f5, .inl f6, .inl f7, .inl f8, .inl f9, .inl f10]) (F' := [.inr 2, .inl f1, .inl r3.1, .inl r3.2.1, .inr 4, .inl f5, .inl f6, .inl f7, .inl f8, .inl f9, .inl f10]) (G := [r1, g1, g2, g3, g4, g5, g6, g7, g8, g9, g10, g11, g12]) (G' := [r1, r3.2.2, g2, g3, g4, g5, g6, g7, g8, g9, g10, g11, g12]) (ρ := [0, 2, 3, 4]) (φ := [2, 3, 0, 4, 5, 6]) (ψ := [1]) [some 2, none, some 0, some 1, some 3, some 4, some 5, none, none, none, none] [none, some 0, none, none, none, none, none, none, none, none, none, none, none] zyw_View_goTo zyw_View_draw zye_View_draw (by decide +kernel) (zt_View_goTo hr3) ⟨⟨_, rfl, fun _ => rfl⟩, ⟨_, rfl, fun _ => rfl⟩, ⟨_, rfl, fun _ => rfl⟩, ⟨_, rfl, fun _ => rfl⟩, ⟨_, rfl, fun _ => rfl⟩, ⟨_, rfl, fun _ => rfl⟩, trivial⟩ ⟨rfl, trivial⟩ rfl rfl rfl rfl rfl rfl rfl) zd97_28 zxt86 rfl (by decide) (by decide) rfl ?_
    refine zv_con hB zd97_31 rfl ?_
    refine zv_ist hB zd97_32 rfl rfl rfl ?_
    obtain ⟨q13, hq13, h⟩ := zi_bind h
    refine l0 _ _ _ _ _ _ _ _ _ _ q13 hq13 ?_
    show good 116 [.inr 1000, .inr 1000, .inr 1000] [] [.inr 2, .inl f1, .inl r3.1, .inl r3.2.1, .inr 4, .inl f5, .inl f6, .inl f7, .inl f8, .inl q13.1, .inl f10] [q13.2.1, q13.2.2.1, q13.2.2.2.1, q13.2.2.2.2.1, g4, g5, g6, g7, g8, g9, g10, q13.2.2.2.2.2, g12]
    have hw := Option.some.inj h
    subst hw
    exact hvret _ _ _ _ zd97_116 trivial ⟨rfl, rfl, rfl⟩
  · rw [if_pos hc2] at h
    have hw := Option.some.inj h
    subst hw
    exact hvret _ _ _ _ zd97_18 trivial ⟨rfl, rfl, rfl⟩
end
section
/-! Methods as functions, and that they do what these do. -/
/-! X_lookAndDraw (LStarTales$View;II)V -/
-- names: 0 StarTales('arg', 0), 1 View('arg', 1), 2 Sky(0, 0, 0), 3 Law(0, 0, 7), 4 (0, 24)(1, 7, 8), 5 (0, 13)(3, 4, 12), 6 (0, 24)(2, 1, 1), 7 (0, 24)(2, 1, 2), 8 (0, 24)(2, 1, 3), 9 (0, 14)(3, 4, 3), 10 (0, 14)(3, 4, 5), 11 (0, 14)(3, 4, 6), 12 (0, 200)(3, 4, 0), 13 (0, 40)(3, 4, 13), 14 (0, 200)(3, 4, 1), 15 (0, 24)(1, 7, 5), 16 (0, 24)(1, 7, 9)
-- fields: f0 = 0.ruling_, f1 = 1.sky_, f2 = 1.law_, f3 = 1.starsAsked_, f4 = 1.x_, f5 = 1.y_, f6 = 2.hour_, f7 = 2.night_, f8 = 1.shown_, f9 = 2.told_, f10 = 2.sightColumns_, f11 = 2.sightRows_, f12 = 2.clouds_, f13 = 3.tellsSeen_, f14 = 1.starsHold_, f15 = 3.clauses_, f16 = 3.answer_, f17 = 3.seenByPlace_, f18 = 3.tellsLines_, f19 = 3.linesByPlace_; arrays: g0 = 4, g1 = 5, g2 = 6, g3 = 7, g4 = 8, g5 = 9, g6 = 10, g7 = 11, g8 = 12, g9 = 13, g10 = 14, g11 = 15, g12 = 16; out: [('f', 3), ('f', 4), ('f', 5), ('f', 8), ('f', 14), ('f', 16), ('g', 0), ('g', 1), ('g', 9), ('g', 11), ('g', 12)]
abbrev zy_X_lookAndDraw : zNL := (17, [(0, 0), (1, 7), (2, 1), (3, 4)], [(0, 0, 7, 0), (1, 7, 0, 1), (1, 7, 1, 2), (1, 7, 6, 3), (1, 7, 2, 4), (1, 7, 3, 5), (2, 1, 6, 6), (2, 1, 7, 7), (1, 7, 4, 8), (2, 1, 0, 9), (2, 1, 9, 10), (2, 1, 10, 11), (2, 1, 8, 12), (3, 4, 8, 13), (1, 7, 7, 14), (3, 4, 7, 15), (3, 4, 14, 16), (3, 4, 10, 17), (3, 4, 9, 18), (3, 4, 11, 19)], [(0, 0, 0, 2), (1, 7, 8, 4), (3, 4, 12, 5), (2, 1, 1, 6), (2, 1, 2, 7), (2, 1, 3, 8), (3, 4, 3, 9), (3, 4, 5, 10), (3, 4, 6, 11), (3, 4, 0, 12), (3, 4, 13, 13), (3, 4, 1, 14), (1, 7, 5, 15), (1, 7, 9, 16)], [(4, 0, 24, 0), (5, 0, 13, 1), (6, 0, 24, 2), (7, 0, 24, 3), (8, 0, 24, 4), (9, 0, 14, 5), (10, 0, 14, 6), (11, 0, 14, 7), (12, 0, 200, 8), (13, 0, 40, 9), (14, 0, 200, 10), (15, 0, 24, 11), (16, 0, 24, 12)])
theorem zyw_X_lookAndDraw : zv_wf zy_X_lookAndDraw = true := by decide +kernel
theorem zye_X_lookAndDraw : zv_ek2 zy_X_lookAndDraw = true := by decide +kernel
def zf_X_lookAndDraw (x2 : Int) (x3 : Int) (f3 : Int) (f4 : Int) (f5 : Int) (f6 : Int) (f7 : Int) (f8 : Int) (f9 : Int) (f10 : Int) (f11 : Int) (f12 : Int) (f13 : Int) (f14 : Int) (f15 : Int) (f16 : Int) (f17 : Int) (f18 : Int) (f19 : Int) (g0 : (Int → Int)) (g1 : (Int → Int)) (g2 : (Int → Int)) (g3 : (Int → Int)) (g4 : (Int → Int)) (g5 : (Int → Int)) (g6 : (Int → Int)) (g7 : (Int → Int)) (g8 : (Int → Int)) (g9 : (Int → Int)) (g10 : (Int → Int)) (g11 : (Int → Int)) (g12 : (Int → Int)) : Option (Int × Int × Int × Int × Int × Int × (Int → Int) × (Int → Int) × (Int → Int) × (Int → Int) × (Int → Int)) := (zf_View_open f3 g0).bind fun r1 => ((zf_View_look x2 x3 f4 f5 f6 f7 f8 f9 f10 f11 f12 f13 r1.1 f14 f15 f16 f17 g1 g2 g3 g4 g5 g6 g7 g8 g9 g10).bind fun r2 => ((zf_View_draw f18 r2.1 r2.2.1 f6 f7 r2.2.2.1 f15 r2.2.2.2.2.2.1 f19 g11 r2.2.2.2.2.2.2.1 r1.2 g12 g4 g3 g2 g5 g6 g7 g8 r2.2.2.2.2.2.2.2 g10).bind fun r3 => (some (r2.2.2.2.1, r3.1, r3.2.1, r2.2.2.1, r2.2.2.2.2.1, r3.2.2.1, r3.2.2.2.2.2.1, r3.2.2.2.2.1, r3.2.2.2.2.2.2.2, r3.2.2.2.1, r3.2.2.2.2.2.2.1))))
theorem zd96_0 : decode zxm96.2.1 0 = .ok (.aload_n 1, 1) := by decide +kernel
theorem zd96_1 : decode zxm96.2.1 1 = .ok (.aload_n 0, 1) := by decide +kernel
theorem zd96_2 : decode zxm96.2.1 2 = .ok (.getfield 10, 3) := by decide +kernel
theorem zd96_5 : decode zxm96.2.1 5 = .ok (.aload_n 0, 1) := by decide +kernel
theorem zd96_6 : decode zxm96.2.1 6 = .ok (.getfield 46, 3) := by decide +kernel
theorem zd96_9 : decode zxm96.2.1 9 = .ok (.invokevirtual 211, 3) := by decide +kernel
theorem zd96_12 : decode zxm96.2.1 12 = .ok (.aload_n 1, 1) := by decide +kernel
theorem zd96_13 : decode zxm96.2.1 13 = .ok (.iload_n 2, 1) := by decide +kernel
theorem zd96_14 : decode zxm96.2.1 14 = .ok (.iload_n 3, 1) := by decide +kernel
theorem zd96_15 : decode zxm96.2.1 15 = .ok (.invokevirtual 214, 3) := by decide +kernel
theorem zd96_18 : decode zxm96.2.1 18 = .ok (.aload_n 1, 1) := by decide +kernel
theorem zd96_19 : decode zxm96.2.1 19 = .ok (.invokevirtual 403, 3) := by decide +kernel
theorem zd96_22 : decode zxm96.2.1 22 = .ok (.return_, 1) := by decide +kernel
theorem zt_X_lookAndDraw {x2 : Int} {x3 : Int} {f3 : Int} {f4 : Int} {f5 : Int} {f6 : Int} {f7 : Int} {f8 : Int} {f9 : Int} {f10 : Int} {f11 : Int} {f12 : Int} {f13 : Int} {f14 : Int} {f15 : Int} {f16 : Int} {f17 : Int} {f18 : Int} {f19 : Int} {g0 : (Int → Int)} {g1 : (Int → Int)} {g2 : (Int → Int)} {g3 : (Int → Int)} {g4 : (Int → Int)} {g5 : (Int → Int)} {g6 : (Int → Int)} {g7 : (Int → Int)} {g8 : (Int → Int)} {g9 : (Int → Int)} {g10 : (Int → Int)} {g11 : (Int → Int)} {g12 : (Int → Int)} {o : Int × Int × Int × Int × Int × Int × (Int → Int) × (Int → Int) × (Int → Int) × (Int → Int) × (Int → Int)} (h : zf_X_lookAndDraw x2 x3 f3 f4 f5 f6 f7 f8 f9 f10 f11 f12 f13 f14 f15 f16 f17 f18 f19 g0 g1 g2 g3 g4 g5 g6 g7 g8 g9 g10 g11 g12 = some o) : zv_Fn z_TB z_cl z_KX zy_X_lookAndDraw zxm96 (5, 300) [.inr 0, .inr 1, .inl x2, .inl x3] [.inr 3, .inr 1000, .inr 1000, .inl f3, .inl f4, .inl f5, .inl f6, .inl f7, .inl f8, .inl f9, .inl f10, .inl f11, .inl f12, .inl f13, .inl f14, .inl f15, .inl f16, .inl f17, .inl f18, .inl f19] [g0, g1, g2, g3, g4, g5, g6, g7, g8, g9, g10, g11, g12] none [.inr 3, .inr 2, .inr 3, .inl o.1, .inl o.2.1, .inl o.2.2.1, .inl f6, .inl f7, .inl o.2.2.2.1, .inl f9, .inl f10, .inl f11, .inl f12, .inl f13, .inl o.2.2.2.2.1, .inl f15, .inl o.2.2.2.2.2.1, .inl f17, .inl f18, .inl f19] [o.2.2.2.2.2.2.1, o.2.2.2.2.2.2.2.1, g2, g3, g4, g5, g6, g7, g8, o.2.2.2.2.2.2.2.2.1, g10, o.2.2.2.2.2.2.2.2.2.1, o.2.2.2.2.2.2.2.2.2.2] := zv_meth (K := (z_KF0, z_KC0, z_KL0, z_KT0, [], [], [], none)) (FT := z_FT) (MT := z_MT) (n := 4) zxp96 (z_ks0 _ (fun _ h => List.mem_cons_of_mem _ h) _ _ _ _ (fun j r h _ => by cases h)) (fun _ _ => zs_KX_p) zyw_X_lookAndDraw (fun va F G h => by obtain ⟨rfl, _⟩ := h; rfl) (fun va F G h => by obtain ⟨rfl, _⟩ := h; rfl) rfl fun good va F G hB hret hvret hP => by
  obtain ⟨rfl, rfl, rfl⟩ := hP
  unfold zf_X_lookAndDraw at h
  refine zv_ald hB zd96_0 rfl rfl rfl ?_
  refine zv_ald hB zd96_1 rfl rfl rfl ?_
  refine zv_getr hB zd96_2 rfl ?_
  refine zv_ald hB zd96_5 rfl rfl rfl ?_
  refine zv_getq hB zd96_6 rfl rfl rfl ?_
  obtain ⟨r1, hr1, h⟩ := zi_bind h
  refine zv_cv hB (zv_emq (va2 := [.inr 1, .inr 2, .inr 3]) (F := [.inr 3, .inr 1000, .inr 1000, .inl f3, .inl f4, .inl f5, .inl f6, .inl f7, .inl f8, .inl f9, .inl f10, .inl f11, .inl f12, .inl f13, .inl f14, .inl f15, .inl f16, .inl f17, .inl f18, .inl f19]) (F' := [.inr 3, .inr 2, .inr 3, .inl r1.1, .inl f4, .inl f5, .inl f6, .inl f7, .inl f8, .inl f9, .inl f10, .inl f11, .inl f12, .inl f13, .inl f14, .inl f15, .inl f16, .inl f17, .inl f18, .inl f19]) (G := [g0, g1, g2, g3, g4, g5, g6, g7, g8, g9, g10, g11, g12]) (G' := [r1.2, g1, g2, g3, g4, g5, g6, g7, g8, g9, g10, g11, g12]) (ρ := [1, 2, 3, 4]) (φ := [1, 2, 3]) (ψ := [0]) [none, some 0, some 1, some 2, none, none, none, none, none, none, none, none, none, none, none, none, none, none, none, none] [some 0, none, none, none, none, none, none, none, none, none, none, none, none] zyw_View_open zyw_X_lookAndDraw zye_X_lookAndDraw (by decide +kernel) (zt_View_open hr1) ⟨⟨_, rfl, fun (h : zv_is (.inr 1000)) => (Nat.lt_irrefl 1000 h).elim⟩, ⟨_, rfl, fun (h : zv_is (.inr 1000)) => (Nat.lt_irrefl 1000 h).elim⟩, ⟨_, rfl, fun _ => rfl⟩, trivial⟩ ⟨rfl, trivial⟩ rfl rfl rfl rfl rfl rfl rfl) zd96_9 zxt84 rfl (by decide) (by decide) rfl ?_
  refine zv_ald hB zd96_12 rfl rfl rfl ?_
  refine zv_ild hB zd96_13 rfl rfl ?_
  refine zv_ild hB zd96_14 rfl rfl ?_
  obtain ⟨r2, hr2, h⟩ := zi_bind h
  refine zv_cv hB (zv_emq (va2 := [.inr 1, .inl x2, .inl x3]) (F := [.inr 3, .inr 2, .inr 3, .inl r1.1, .inl f4, .inl f5, .inl f6, .inl f7, .inl f8, .inl f9, .inl f10, .inl f11, .inl f12, .inl f13, .inl f14, .inl f15, .inl f16, .inl f17, .inl f18, .inl f19]) (F' := [.inr 3, .inr 2, .inr 3, .inl r2.2.2.2.1, .inl r2.1, .inl r2.2.1, .inl f6, .inl f7, .inl r2.2.2.1, .inl f9, .inl f10, .inl f11, .inl f12, .inl f13, .inl r2.2.2.2.2.1, .inl f15, .inl r2.2.2.2.2.2.1, .inl f17, .inl f18, .inl f19]) (G := [r1.2, g1, g2, g3, g4, g5, g6, g7, g8, g9, g10, g11, g12]) (G' := [r1.2, r2.2.2.2.2.2.2.1, g2, g3, g4, g5, g6, g7, g8, r2.2.2.2.2.2.2.2, g10, g11, g12]) (ρ := [1, 3, 5, 2, 6, 7, 8, 9, 10, 11, 12, 13, 14]) (φ := [2, 1, 4, 5, 6, 7, 8, 9, 10, 11, 12, 13, 3, 14, 15, 16, 17]) (ψ := [1, 2, 3, 4, 5, 6, 7, 8, 9, 10]) [none, some 1, some 0, some 12, some 2, some 3, some 4, some 5, some 6, some 7, some 8, some 9, some 10, some 11, some 13, some 14, some 15, some 16, none, none] [none, some 0, some 1, some 2, some 3, some 4, some 5, some 6, some 7, some 8, some 9, none, none] zyw_View_look zyw_X_lookAndDraw zye_X_lookAndDraw (by decide +kernel) (zt_View_look hr2) ⟨⟨_, rfl, fun _ => rfl⟩, ⟨_, rfl, fun _ => rfl⟩, ⟨_, rfl, fun _ => rfl⟩, ⟨_, rfl, fun _ => rfl⟩, ⟨_, rfl, fun _ => rfl⟩, ⟨_, rfl, fun _ => rfl⟩, ⟨_, rfl, fun _ => rfl⟩, ⟨_, rfl, fun _ => rfl⟩, ⟨_, rfl, fun _ => rfl⟩, ⟨_, rfl, fun _ => rfl⟩, ⟨_, rfl, fun _ => rfl⟩, ⟨_, rfl, fun _ => rfl⟩, ⟨_, rfl, fun _ => rfl⟩, ⟨_, rfl, fun _ => rfl⟩, ⟨_, rfl, fun _ => rfl⟩, ⟨_, rfl, fun _ => rfl⟩, ⟨_, rfl, fun _ => rfl⟩, trivial⟩ ⟨rfl, rfl, rfl, rfl, rfl, rfl, rfl, rfl, rfl, rfl, trivial⟩ rfl rfl rfl rfl rfl rfl rfl) zd96_15 zxt85 rfl (by decide) (by decide) rfl ?_
  refine zv_ald hB zd96_18 rfl rfl rfl ?_
  obtain ⟨r3, hr3, h⟩ := zi_bind h
  refine zv_cv hB (zv_emq (va2 := [.inr 1]) (F := [.inr 3, .inr 2, .inr 3, .inl r2.2.2.2.1, .inl r2.1, .inl r2.2.1, .inl f6, .inl f7, .inl r2.2.2.1, .inl f9, .inl f10, .inl f11, .inl f12, .inl f13, .inl r2.2.2.2.2.1, .inl f15, .inl r2.2.2.2.2.2.1, .inl f17, .inl f18, .inl f19]) (F' := [.inr 3, .inr 2, .inr 3, .inl r2.2.2.2.1, .inl r3.1, .inl r3.2.1, .inl f6, .inl f7, .inl r2.2.2.1, .inl f9, .inl f10, .inl f11, .inl f12, .inl f13, .inl r2.2.2.2.2.1, .inl f15, .inl r3.2.2.1, .inl f17, .inl f18, .inl f19]) (G := [r1.2, r2.2.2.2.2.2.2.1, g2, g3, g4, g5, g6, g7, g8, r2.2.2.2.2.2.2.2, g10, g11, g12]) (G' := [r3.2.2.2.2.2.1, r3.2.2.2.2.1, g2, g3, g4, g5, g6, g7, g8, r3.2.2.2.2.2.2.2, g10, r3.2.2.2.1, r3.2.2.2.2.2.2.1]) (ρ := [1, 15, 3, 5, 2, 4, 16, 8, 7, 6, 9, 10, 11, 12, 13, 14]) (φ := [2, 18, 4, 5, 1, 6, 7, 8, 15, 16, 19]) (ψ := [11, 1, 0, 12, 4, 3, 2, 5, 6, 7, 8, 9, 10]) [none, some 4, some 0, none, some 2, some 3, some 5, some 6, some 7, none, none, none, none, none, none, some 8, some 9, none, some 1, some 10] [some 2, some 1, some 6, some 5, some 4, some 7, some 8, some 9, some 10, some 11, some 12, some 0, some 3] zyw_View_draw zyw_X_lookAndDraw zye_X_lookAndDraw (by decide +kernel) (zt_View_draw hr3) ⟨⟨_, rfl, fun _ => rfl⟩, ⟨_, rfl, fun _ => rfl⟩, ⟨_, rfl, fun _ => rfl⟩, ⟨_, rfl, fun _ => rfl⟩, ⟨_, rfl, fun _ => rfl⟩, ⟨_, rfl, fun _ => rfl⟩, ⟨_, rfl, fun _ => rfl⟩, ⟨_, rfl, fun _ => rfl⟩, ⟨_, rfl, fun _ => rfl⟩, ⟨_, rfl, fun _ => rfl⟩, ⟨_, rfl, fun _ => rfl⟩, trivial⟩ ⟨rfl, rfl, rfl, rfl, rfl, rfl, rfl, rfl, rfl, rfl, rfl, rfl, rfl, trivial⟩ rfl rfl rfl rfl rfl rfl rfl) zd96_19 zxt97 rfl (by decide) (by decide) rfl ?_
  have hw := Option.some.inj h
  subst hw
  exact hvret _ _ _ _ zd96_22 trivial ⟨rfl, rfl, rfl⟩
/-! X_line (IIII)I -/
-- names: 0 StarTales('arg', 0), 1 Sky(0, 0, 0), 2 View(0, 0, 12), 3 Law(0, 0, 7), 4 (0, 24)(2, 7, 8), 5 (0, 13)(3, 4, 12), 6 (0, 24)(1, 1, 1), 7 (0, 24)(1, 1, 2), 8 (0, 24)(1, 1, 3), 9 (0, 14)(3, 4, 3), 10 (0, 14)(3, 4, 5), 11 (0, 14)(3, 4, 6), 12 (0, 200)(3, 4, 0), 13 (0, 40)(3, 4, 13), 14 (0, 200)(3, 4, 1), 15 (0, 24)(2, 7, 5), 16 (0, 24)(2, 7, 9)
-- fields: f0 = 1.told_, f1 = 0.ruling_, f2 = 2.sky_, f3 = 2.law_, f4 = 2.starsAsked_, f5 = 2.x_, f6 = 2.y_, f7 = 1.hour_, f8 = 1.night_, f9 = 2.shown_, f10 = 1.sightColumns_, f11 = 1.sightRows_, f12 = 1.clouds_, f13 = 3.tellsSeen_, f14 = 2.starsHold_, f15 = 3.clauses_, f16 = 3.answer_, f17 = 3.seenByPlace_, f18 = 3.tellsLines_, f19 = 3.linesByPlace_; arrays: g0 = 4, g1 = 5, g2 = 6, g3 = 7, g4 = 8, g5 = 9, g6 = 10, g7 = 11, g8 = 12, g9 = 13, g10 = 14, g11 = 15, g12 = 16; out: [('ret', None), ('f', 4), ('f', 5), ('f', 6), ('f', 9), ('f', 14), ('f', 16), ('g', 0), ('g', 1), ('g', 9), ('g', 11), ('g', 12)]
abbrev zy_X_line : zNL := (17, [(0, 0), (1, 1), (2, 7), (3, 4)], [(1, 1, 0, 0), (0, 0, 7, 1), (2, 7, 0, 2), (2, 7, 1, 3), (2, 7, 6, 4), (2, 7, 2, 5), (2, 7, 3, 6), (1, 1, 6, 7), (1, 1, 7, 8), (2, 7, 4, 9), (1, 1, 9, 10), (1, 1, 10, 11), (1, 1, 8, 12), (3, 4, 8, 13), (2, 7, 7, 14), (3, 4, 7, 15), (3, 4, 14, 16), (3, 4, 10, 17), (3, 4, 9, 18), (3, 4, 11, 19)], [(0, 0, 0, 1), (0, 0, 12, 2), (2, 7, 8, 4), (3, 4, 12, 5), (1, 1, 1, 6), (1, 1, 2, 7), (1, 1, 3, 8), (3, 4, 3, 9), (3, 4, 5, 10), (3, 4, 6, 11), (3, 4, 0, 12), (3, 4, 13, 13), (3, 4, 1, 14), (2, 7, 5, 15), (2, 7, 9, 16)], [(4, 0, 24, 0), (5, 0, 13, 1), (6, 0, 24, 2), (7, 0, 24, 3), (8, 0, 24, 4), (9, 0, 14, 5), (10, 0, 14, 6), (11, 0, 14, 7), (12, 0, 200, 8), (13, 0, 40, 9), (14, 0, 200, 10), (15, 0, 24, 11), (16, 0, 24, 12)])
theorem zyw_X_line : zv_wf zy_X_line = true := by decide +kernel
theorem zye_X_line : zv_ek2 zy_X_line = true := by decide +kernel
def zf_X_line (x1 : Int) (x2 : Int) (x3 : Int) (x4 : Int) (f0 : Int) (f4 : Int) (f5 : Int) (f6 : Int) (f7 : Int) (f8 : Int) (f9 : Int) (f10 : Int) (f11 : Int) (f12 : Int) (f13 : Int) (f14 : Int) (f15 : Int) (f16 : Int) (f17 : Int) (f18 : Int) (f19 : Int) (g0 : (Int → Int)) (g1 : (Int → Int)) (g2 : (Int → Int)) (g3 : (Int → Int)) (g4 : (Int → Int)) (g5 : (Int → Int)) (g6 : (Int → Int)) (g7 : (Int → Int)) (g8 : (Int → Int)) (g9 : (Int → Int)) (g10 : (Int → Int)) (g11 : (Int → Int)) (g12 : (Int → Int)) : Option (Int × Int × Int × Int × Int × Int × Int × (Int → Int) × (Int → Int) × (Int → Int) × (Int → Int) × (Int → Int)) := (zf_X_isPlace x1 x2).bind fun r1 => (if r1 = 0 then (some ((-1), f4, f5, f6, f9, f14, f16, g0, g1, g9, g11, g12)) else ((zf_Sky_hasStar x3 f0).bind fun r3 => (if r3 = 0 then (some ((-1), f4, f5, f6, f9, f14, f16, g0, g1, g9, g11, g12)) else ((zf_Sky_hasStar x4 f0).bind fun r5 => (if r5 = 0 then (some ((-1), f4, f5, f6, f9, f14, f16, g0, g1, g9, g11, g12)) else (if x3 = x4 then (some ((-1), f4, f5, f6, f9, f14, f16, g0, g1, g9, g11, g12)) else ((zf_X_lookAndDraw x1 x2 f4 f5 f6 f7 f8 f9 f0 f10 f11 f12 f13 f14 f15 f16 f17 f18 f19 g0 g1 g2 g3 g4 g5 g6 g7 g8 g9 g10 g11 g12).bind fun r8 => (cond (zi_ix x3 24) (some ((zi_and (zi_shr (r8.2.2.2.2.2.2.2.2.2.1 x3) x4) 1), r8.1, r8.2.1, r8.2.2.1, r8.2.2.2.1, r8.2.2.2.2.1, r8.2.2.2.2.2.1, r8.2.2.2.2.2.2.1, r8.2.2.2.2.2.2.2.1, r8.2.2.2.2.2.2.2.2.1, r8.2.2.2.2.2.2.2.2.2.1, r8.2.2.2.2.2.2.2.2.2.2)) none))))))))
theorem zd95_0 : decode zxm95.2.1 0 = .ok (.iload_n 1, 1) := by decide +kernel
theorem zd95_1 : decode zxm95.2.1 1 = .ok (.iload_n 2, 1) := by decide +kernel
theorem zd95_2 : decode zxm95.2.1 2 = .ok (.invokestatic 130, 3) := by decide +kernel
theorem zd95_5 : decode zxm95.2.1 5 = .ok (.ifCond .eq 32, 3) := by decide +kernel
theorem zd95_8 : decode zxm95.2.1 8 = .ok (.aload_n 0, 1) := by decide +kernel
theorem zd95_9 : decode zxm95.2.1 9 = .ok (.getfield 10, 3) := by decide +kernel
theorem zd95_12 : decode zxm95.2.1 12 = .ok (.iload_n 3, 1) := by decide +kernel
theorem zd95_13 : decode zxm95.2.1 13 = .ok (.invokevirtual 153, 3) := by decide +kernel
theorem zd95_16 : decode zxm95.2.1 16 = .ok (.ifCond .eq 21, 3) := by decide +kernel
theorem zd95_19 : decode zxm95.2.1 19 = .ok (.aload_n 0, 1) := by decide +kernel
theorem zd95_20 : decode zxm95.2.1 20 = .ok (.getfield 10, 3) := by decide +kernel
theorem zd95_23 : decode zxm95.2.1 23 = .ok (.iload 4, 2) := by decide +kernel
theorem zd95_25 : decode zxm95.2.1 25 = .ok (.invokevirtual 153, 3) := by decide +kernel
theorem zd95_28 : decode zxm95.2.1 28 = .ok (.ifCond .eq 9, 3) := by decide +kernel
theorem zd95_31 : decode zxm95.2.1 31 = .ok (.iload_n 3, 1) := by decide +kernel
theorem zd95_32 : decode zxm95.2.1 32 = .ok (.iload 4, 2) := by decide +kernel
theorem zd95_34 : decode zxm95.2.1 34 = .ok (.if_icmp .ne 5, 3) := by decide +kernel
theorem zd95_37 : decode zxm95.2.1 37 = .ok (.iconst (-1), 1) := by decide +kernel
theorem zd95_38 : decode zxm95.2.1 38 = .ok (.ireturn, 1) := by decide +kernel
theorem zd95_39 : decode zxm95.2.1 39 = .ok (.aload_n 0, 1) := by decide +kernel
theorem zd95_40 : decode zxm95.2.1 40 = .ok (.aload_n 0, 1) := by decide +kernel
theorem zd95_41 : decode zxm95.2.1 41 = .ok (.getfield 81, 3) := by decide +kernel
theorem zd95_44 : decode zxm95.2.1 44 = .ok (.iload_n 1, 1) := by decide +kernel
theorem zd95_45 : decode zxm95.2.1 45 = .ok (.iload_n 2, 1) := by decide +kernel
theorem zd95_46 : decode zxm95.2.1 46 = .ok (.invokevirtual 221, 3) := by decide +kernel
theorem zd95_49 : decode zxm95.2.1 49 = .ok (.aload_n 0, 1) := by decide +kernel
theorem zd95_50 : decode zxm95.2.1 50 = .ok (.getfield 81, 3) := by decide +kernel
theorem zd95_53 : decode zxm95.2.1 53 = .ok (.getfield 90, 3) := by decide +kernel
theorem zd95_56 : decode zxm95.2.1 56 = .ok (.iload_n 3, 1) := by decide +kernel
theorem zd95_57 : decode zxm95.2.1 57 = .ok (.iaload, 1) := by decide +kernel
theorem zd95_58 : decode zxm95.2.1 58 = .ok (.iload 4, 2) := by decide +kernel
theorem zd95_60 : decode zxm95.2.1 60 = .ok (.ishr, 1) := by decide +kernel
theorem zd95_61 : decode zxm95.2.1 61 = .ok (.iconst 1, 1) := by decide +kernel
theorem zd95_62 : decode zxm95.2.1 62 = .ok (.iand, 1) := by decide +kernel
theorem zd95_63 : decode zxm95.2.1 63 = .ok (.ireturn, 1) := by decide +kernel
theorem zt_X_line {x1 : Int} {x2 : Int} {x3 : Int} {x4 : Int} {f0 : Int} {f4 : Int} {f5 : Int} {f6 : Int} {f7 : Int} {f8 : Int} {f9 : Int} {f10 : Int} {f11 : Int} {f12 : Int} {f13 : Int} {f14 : Int} {f15 : Int} {f16 : Int} {f17 : Int} {f18 : Int} {f19 : Int} {g0 : (Int → Int)} {g1 : (Int → Int)} {g2 : (Int → Int)} {g3 : (Int → Int)} {g4 : (Int → Int)} {g5 : (Int → Int)} {g6 : (Int → Int)} {g7 : (Int → Int)} {g8 : (Int → Int)} {g9 : (Int → Int)} {g10 : (Int → Int)} {g11 : (Int → Int)} {g12 : (Int → Int)} {o : Int × Int × Int × Int × Int × Int × Int × (Int → Int) × (Int → Int) × (Int → Int) × (Int → Int) × (Int → Int)} (h : zf_X_line x1 x2 x3 x4 f0 f4 f5 f6 f7 f8 f9 f10 f11 f12 f13 f14 f15 f16 f17 f18 f19 g0 g1 g2 g3 g4 g5 g6 g7 g8 g9 g10 g11 g12 = some o) : zv_Fn z_TB z_cl z_KX zy_X_line zxm95 (6, 360) [.inr 0, .inl x1, .inl x2, .inl x3, .inl x4] [.inl f0, .inr 3, .inr 1000, .inr 1000, .inl f4, .inl f5, .inl f6, .inl f7, .inl f8, .inl f9, .inl f10, .inl f11, .inl f12, .inl f13, .inl f14, .inl f15, .inl f16, .inl f17, .inl f18, .inl f19] [g0, g1, g2, g3, g4, g5, g6, g7, g8, g9, g10, g11, g12] (some o.1) [.inl f0, .inr 3, .inr 1000, .inr 1000, .inl o.2.1, .inl o.2.2.1, .inl o.2.2.2.1, .inl f7, .inl f8, .inl o.2.2.2.2.1, .inl f10, .inl f11, .inl f12, .inl f13, .inl o.2.2.2.2.2.1, .inl f15, .inl o.2.2.2.2.2.2.1, .inl f17, .inl f18, .inl f19] [o.2.2.2.2.2.2.2.1, o.2.2.2.2.2.2.2.2.1, g2, g3, g4, g5, g6, g7, g8, o.2.2.2.2.2.2.2.2.2.1, g10, o.2.2.2.2.2.2.2.2.2.2.1, o.2.2.2.2.2.2.2.2.2.2.2] := zv_meth (K := (z_KF0, z_KC0, z_KL0, z_KT0, [], [], [], none)) (FT := z_FT) (MT := z_MT) (n := 5) zxp95 (z_ks0 _ (fun _ h => List.mem_cons_of_mem _ h) _ _ _ _ (fun j r h _ => by cases h)) (fun _ _ => zs_KX_p) zyw_X_line (fun va F G h => by obtain ⟨rfl, _⟩ := h; rfl) (fun va F G h => by obtain ⟨rfl, _⟩ := h; rfl) rfl fun good va F G hB hret hvret hP => by
  obtain ⟨rfl, rfl, rfl⟩ := hP
  unfold zf_X_line at h
  refine zv_ild hB zd95_0 rfl rfl ?_
  refine zv_ild hB zd95_1 rfl rfl ?_
  obtain ⟨r1, hr1, h⟩ := zi_bind h
  refine zv_cs hB (zv_emq (va2 := [.inl x1, .inl x2]) (F := [.inl f0, .inr 3, .inr 1000, .inr 1000, .inl f4, .inl f5, .inl f6, .inl f7, .inl f8, .inl f9, .inl f10, .inl f11, .inl f12, .inl f13, .inl f14, .inl f15, .inl f16, .inl f17, .inl f18, .inl f19]) (F' := [.inl f0, .inr 3, .inr 1000, .inr 1000, .inl f4, .inl f5, .inl f6, .inl f7, .inl f8, .inl f9, .inl f10, .inl f11, .inl f12, .inl f13, .inl f14, .inl f15, .inl f16, .inl f17, .inl f18, .inl f19]) (G := [g0, g1, g2, g3, g4, g5, g6, g7, g8, g9, g10, g11, g12]) (G' := [g0, g1, g2, g3, g4, g5, g6, g7, g8, g9, g10, g11, g12]) (ρ := []) (φ := []) (ψ := []) [none, none, none, none, none, none, none, none, none, none, none, none, none, none, none, none, none, none, none, none] [none, none, none, none, none, none, none, none, none, none, none, none, none] zyw_X_isPlace zyw_X_line zye_X_line (by decide +kernel) (zt_X_isPlace hr1) trivial trivial rfl rfl rfl rfl rfl rfl rfl) zd95_2 zxt16 rfl (by decide) (by decide) rfl ?_
  refine zv_zeq hB zd95_5 rfl (fun hc2 => ?_) (fun hc2 => ?_)
  · rw [if_pos hc2] at h
    refine zv_con hB zd95_37 rfl ?_
    have hw := Option.some.inj h
    subst hw
    exact hret _ _ _ _ _ zd95_38 (by trivial) ⟨rfl, rfl, rfl⟩
  · rw [if_neg hc2] at h
    refine zv_ald hB zd95_8 rfl rfl rfl ?_
    refine zv_getr hB zd95_9 rfl ?_
    refine zv_ild hB zd95_12 rfl rfl ?_
    obtain ⟨r3, hr3, h⟩ := zi_bind h
    refine zv_cv hB (zv_emq (va2 := [.inr 1, .inl x3]) (F := [.inl f0, .inr 3, .inr 1000, .inr 1000, .inl f4, .inl f5, .inl f6, .inl f7, .inl f8, .inl f9, .inl f10, .inl f11, .inl f12, .inl f13, .inl f14, .inl f15, .inl f16, .inl f17, .inl f18, .inl f19]) (F' := [.inl f0, .inr 3, .inr 1000, .inr 1000, .inl f4, .inl f5, .inl f6, .inl f7, .inl f8, .inl f9, .inl f10, .inl f11, .inl f12, .inl f13, .inl f14, .inl f15, .inl f16, .inl f17, .inl f18, .inl f19]) (G := [g0, g1, g2, g3, g4, g5, g6, g7, g8, g9, g10, g11, g12]) (G' := [g0, g1, g2, g3, g4, g5, g6, g7, g8, g9, g10, g11, g12]) (ρ := [1]) (φ := [0]) (ψ := []) [some 0, none, none, none, none, none, none, none, none, none, none, none, none, none, none, none, none, none, none, none] [none, none, none, none, none, none, none, none, none, none, none, none, none] zyw_Sky_hasStar zyw_X_line zye_X_line (by decide +kernel) (zt_Sky_hasStar hr3) ⟨⟨_, rfl, fun _ => rfl⟩, trivial⟩ trivial rfl rfl rfl rfl rfl rfl rfl) zd95_13 zxt18 rfl (by decide) (by decide) rfl ?_
    refine zv_zeq hB zd95_16 rfl (fun hc4 => ?_) (fun hc4 => ?_)
    · rw [if_pos hc4] at h
      refine zv_con hB zd95_37 rfl ?_
      have hw := Option.some.inj h
      subst hw
      exact hret _ _ _ _ _ zd95_38 (by trivial) ⟨rfl, rfl, rfl⟩
    · rw [if_neg hc4] at h
      refine zv_ald hB zd95_19 rfl rfl rfl ?_
      refine zv_getr hB zd95_20 rfl ?_
      refine zv_ild hB zd95_23 rfl rfl ?_
      obtain ⟨r5, hr5, h⟩ := zi_bind h
      refine zv_cv hB (zv_emq (va2 := [.inr 1, .inl x4]) (F := [.inl f0, .inr 3, .inr 1000, .inr 1000, .inl f4, .inl f5, .inl f6, .inl f7, .inl f8, .inl f9, .inl f10, .inl f11, .inl f12, .inl f13, .inl f14, .inl f15, .inl f16, .inl f17, .inl f18, .inl f19]) (F' := [.inl f0, .inr 3, .inr 1000, .inr 1000, .inl f4, .inl f5, .inl f6, .inl f7, .inl f8, .inl f9, .inl f10, .inl f11, .inl f12, .inl f13, .inl f14, .inl f15, .inl f16, .inl f17, .inl f18, .inl f19]) (G := [g0, g1, g2, g3, g4, g5, g6, g7, g8, g9, g10, g11, g12]) (G' := [g0, g1, g2, g3, g4, g5, g6, g7, g8, g9, g10, g11, g12]) (ρ := [1]) (φ := [0]) (ψ := []) [some 0, none, none, none, none, none, none, none, none, none, none, none, none, none, none, none, none, none, none, none] [none, none, none, none, none, none, none, none, none, none, none, none, none] zyw_Sky_hasStar zyw_X_line zye_X_line (by decide +kernel) (zt_Sky_hasStar hr5) ⟨⟨_, rfl, fun _ => rfl⟩, trivial⟩ trivial rfl rfl rfl rfl rfl rfl rfl) zd95_25 zxt18 rfl (by decide) (by decide) rfl ?_
      refine zv_zeq hB zd95_28 rfl (fun hc6 => ?_) (fun hc6 => ?_)
      · rw [if_pos hc6] at h
        refine zv_con hB zd95_37 rfl ?_
        have hw := Option.some.inj h
        subst hw
        exact hret _ _ _ _ _ zd95_38 (by trivial) ⟨rfl, rfl, rfl⟩
      · rw [if_neg hc6] at h
        refine zv_ild hB zd95_31 rfl rfl ?_
        refine zv_ild hB zd95_32 rfl rfl ?_
        refine zv_cne hB zd95_34 rfl (fun hc7 => ?_) (fun hc7 => ?_)
        · rw [if_neg hc7] at h
          refine zv_ald hB zd95_39 rfl rfl rfl ?_
          refine zv_ald hB zd95_40 rfl rfl rfl ?_
          refine zv_getr hB zd95_41 rfl ?_
          refine zv_ild hB zd95_44 rfl rfl ?_
          refine zv_ild hB zd95_45 rfl rfl ?_
          obtain ⟨r8, hr8, h⟩ := zi_bind h
          refine zv_cv hB (zv_emq (va2 := [.inr 0, .inr 2, .inl x1, .inl x2]) (F := [.inl f0, .inr 3, .inr 1000, .inr 1000, .inl f4, .inl f5, .inl f6, .inl f7, .inl f8, .inl f9, .inl f10, .inl f11, .inl f12, .inl f13, .inl f14, .inl f15, .inl f16, .inl f17, .inl f18, .inl f19]) (F' := [.inl f0, .inr 3, .inr 1, .inr 3, .inl r8.1, .inl r8.2.1, .inl r8.2.2.1, .inl f7, .inl f8, .inl r8.2.2.2.1, .inl f10, .inl f11, .inl f12, .inl f13, .inl r8.2.2.2.2.1, .inl f15, .inl r8.2.2.2.2.2.1, .inl f17, .inl f18, .inl f19]) (G := [g0, g1, g2, g3, g4, g5, g6, g7, g8, g9, g10, g11, g12]) (G' := [r8.2.2.2.2.2.2.1, r8.2.2.2.2.2.2.2.1, g2, g3, g4, g5, g6, g7, g8, r8.2.2.2.2.2.2.2.2.1, g10, r8.2.2.2.2.2.2.2.2.2.1, r8.2.2.2.2.2.2.2.2.2.2]) (ρ := [0, 2, 1, 3, 4, 5, 6, 7, 8, 9, 10, 11, 12, 13, 14, 15, 16]) (φ := [1, 2, 3, 4, 5, 6, 7, 8, 9, 0, 10, 11, 12, 13, 14, 15, 16, 17, 18, 19]) (ψ := [0, 1, 2, 3, 4, 5, 6, 7, 8, 9, 10, 11, 12]) [some 9, some 0, some 1, some 2, some 3, some 4, some 5, some 6, some 7, some 8, some 10, some 11, some 12, some 13, some 14, some 15, some 16, some 17, some 18, some 19] [some 0, some 1, some 2, some 3, some 4, some 5, some 6, some 7, some 8, some 9, some 10, some 11, some 12] zyw_X_lookAndDraw zyw_X_line zye_X_line (by decide +kernel) (zt_X_lookAndDraw hr8) ⟨⟨_, rfl, fun _ => rfl⟩, ⟨_, rfl, fun (h : zv_is (.inr 1000)) => (Nat.lt_irrefl 1000 h).elim⟩, ⟨_, rfl, fun (h : zv_is (.inr 1000)) => (Nat.lt_irrefl 1000 h).elim⟩, ⟨_, rfl, fun _ => rfl⟩, ⟨_, rfl, fun _ => rfl⟩, ⟨_, rfl, fun _ => rfl⟩, ⟨_, rfl, fun _ => rfl⟩, ⟨_, rfl, fun _ => rfl⟩, ⟨_, rfl, fun _ => rfl⟩, ⟨_, rfl, fun _ => rfl⟩, ⟨_, rfl, fun _ => rfl⟩, ⟨_, rfl, fun _ => rfl⟩, ⟨_, rfl, fun _ => rfl⟩, ⟨_, rfl, fun _ => rfl⟩, ⟨_, rfl, fun _ => rfl⟩, ⟨_, rfl, fun _ => rfl⟩, ⟨_, rfl, fun _ => rfl⟩, ⟨_, rfl, fun _ => rfl⟩, ⟨_, rfl, fun _ => rfl⟩, ⟨_, rfl, fun _ => rfl⟩, trivial⟩ ⟨rfl, rfl, rfl, rfl, rfl, rfl, rfl, rfl, rfl, rfl, rfl, rfl, rfl, trivial⟩ rfl rfl rfl rfl rfl rfl rfl) zd95_46 zxt96 rfl (by decide) (by decide) rfl ?_
          refine zv_ald hB zd95_49 rfl rfl rfl ?_
          refine zv_getr hB zd95_50 rfl ?_
          refine zv_getr hB zd95_53 rfl ?_
          refine zv_ild hB zd95_56 rfl rfl ?_
          obtain ⟨c9, h⟩ := zi_if h
          refine zv_iald hB zd95_57 rfl rfl (zi_ix_ok c9).1 (zi_ix_ok c9).2 (fun _ _ => ?_)
          refine zv_ild hB zd95_58 rfl rfl ?_
          refine zv_shrw hB zd95_60 ?_
          refine zv_con hB zd95_61 rfl ?_
          refine zv_andw hB zd95_62 ?_
          have hw := Option.some.inj h
          refine zv_wk hB (L' := [.inr 0, .inl x1, .inl x2, .inl x3, .inl x4]) (F' := [.inl f0, .inr 3, .inr 1000, .inr 1000, .inl r8.1, .inl r8.2.1, .inl r8.2.2.1, .inl f7, .inl f8, .inl r8.2.2.2.1, .inl f10, .inl f11, .inl f12, .inl f13, .inl r8.2.2.2.2.1, .inl f15, .inl r8.2.2.2.2.2.1, .inl f17, .inl f18, .inl f19]) ⟨fun _ => rfl, fun _ => rfl, fun _ => rfl, fun _ => rfl, fun _ => rfl, trivial⟩ ⟨fun _ => rfl, fun _ => rfl, fun (h : zv_is (.inr 1000)) => (Nat.lt_irrefl 1000 h).elim, fun (h : zv_is (.inr 1000)) => (Nat.lt_irrefl 1000 h).elim, fun _ => rfl, fun _ => rfl, fun _ => rfl, fun _ => rfl, fun _ => rfl, fun _ => rfl, fun _ => rfl, fun _ => rfl, fun _ => rfl, fun _ => rfl, fun _ => rfl, fun _ => rfl, fun _ => rfl, fun _ => rfl, fun _ => rfl, fun _ => rfl, trivial⟩ ?_
          subst hw
          exact hret _ _ _ _ _ zd95_63 (by trivial) ⟨rfl, rfl, rfl⟩
        · rw [if_pos hc7] at h
          refine zv_con hB zd95_37 rfl ?_
          have hw := Option.some.inj h
          subst hw
          exact hret _ _ _ _ _ zd95_38 (by trivial) ⟨rfl, rfl, rfl⟩
/-! Integer_bitCount (I)I -/
-- names: 
-- fields: ; arrays: ; out: [('ret', None)]
abbrev zy_Integer_bitCount : zNL := (0, [], [], [], [])
theorem zyw_Integer_bitCount : zv_wf zy_Integer_bitCount = true := by decide +kernel
theorem zye_Integer_bitCount : zv_ek2 zy_Integer_bitCount = true := by decide +kernel
def zf_Integer_bitCount (x0 : Int) : Option (Int) := zi_let (zi_w ((zi_and (zi_w (x0 - (zi_and (zi_ush x0 1) 1431655765))) 858993459) + (zi_and (zi_ush (zi_w (x0 - (zi_and (zi_ush x0 1) 1431655765))) 2) 858993459))) fun v1 => (zi_let (zi_w ((zi_w ((zi_and (zi_w (v1 + (zi_ush v1 4))) 252645135) + (zi_ush (zi_and (zi_w (v1 + (zi_ush v1 4))) 252645135) 8))) + (zi_ush (zi_w ((zi_and (zi_w (v1 + (zi_ush v1 4))) 252645135) + (zi_ush (zi_and (zi_w (v1 + (zi_ush v1 4))) 252645135) 8))) 16))) fun v2 => (some (zi_and v2 63)))
theorem zd102_0 : decode zxm102.2.1 0 = .ok (.iload_n 0, 1) := by decide +kernel
theorem zd102_1 : decode zxm102.2.1 1 = .ok (.iload_n 0, 1) := by decide +kernel
theorem zd102_2 : decode zxm102.2.1 2 = .ok (.iconst 1, 1) := by decide +kernel
theorem zd102_3 : decode zxm102.2.1 3 = .ok (.iushr, 1) := by decide +kernel
theorem zd102_4 : decode zxm102.2.1 4 = .ok (.ldc_w 265, 3) := by decide +kernel
theorem zd102_7 : decode zxm102.2.1 7 = .ok (.iand, 1) := by decide +kernel
theorem zd102_8 : decode zxm102.2.1 8 = .ok (.isub, 1) := by decide +kernel
theorem zd102_9 : decode zxm102.2.1 9 = .ok (.istore_n 0, 1) := by decide +kernel
theorem zd102_10 : decode zxm102.2.1 10 = .ok (.iload_n 0, 1) := by decide +kernel
theorem zd102_11 : decode zxm102.2.1 11 = .ok (.ldc_w 266, 3) := by decide +kernel
theorem zd102_14 : decode zxm102.2.1 14 = .ok (.iand, 1) := by decide +kernel
theorem zd102_15 : decode zxm102.2.1 15 = .ok (.iload_n 0, 1) := by decide +kernel
theorem zd102_16 : decode zxm102.2.1 16 = .ok (.iconst 2, 1) := by decide +kernel
theorem zd102_17 : decode zxm102.2.1 17 = .ok (.iushr, 1) := by decide +kernel
theorem zd102_18 : decode zxm102.2.1 18 = .ok (.ldc_w 266, 3) := by decide +kernel
theorem zd102_21 : decode zxm102.2.1 21 = .ok (.iand, 1) := by decide +kernel
theorem zd102_22 : decode zxm102.2.1 22 = .ok (.iadd, 1) := by decide +kernel
theorem zd102_23 : decode zxm102.2.1 23 = .ok (.istore_n 0, 1) := by decide +kernel
theorem zd102_24 : decode zxm102.2.1 24 = .ok (.iload_n 0, 1) := by decide +kernel
theorem zd102_25 : decode zxm102.2.1 25 = .ok (.iload_n 0, 1) := by decide +kernel
theorem zd102_26 : decode zxm102.2.1 26 = .ok (.iconst 4, 1) := by decide +kernel
theorem zd102_27 : decode zxm102.2.1 27 = .ok (.iushr, 1) := by decide +kernel
theorem zd102_28 : decode zxm102.2.1 28 = .ok (.iadd, 1) := by decide +kernel
theorem zd102_29 : decode zxm102.2.1 29 = .ok (.ldc_w 267, 3) := by decide +kernel
theorem zd102_32 : decode zxm102.2.1 32 = .ok (.iand, 1) := by decide +kernel
theorem zd102_33 : decode zxm102.2.1 33 = .ok (.istore_n 0, 1) := by decide +kernel
theorem zd102_34 : decode zxm102.2.1 34 = .ok (.iload_n 0, 1) := by decide +kernel
theorem zd102_35 : decode zxm102.2.1 35 = .ok (.iload_n 0, 1) := by decide +kernel
theorem zd102_36 : decode zxm102.2.1 36 = .ok (.bipush 8, 2) := by decide +kernel
theorem zd102_38 : decode zxm102.2.1 38 = .ok (.iushr, 1) := by decide +kernel
theorem zd102_39 : decode zxm102.2.1 39 = .ok (.iadd, 1) := by decide +kernel
theorem zd102_40 : decode zxm102.2.1 40 = .ok (.istore_n 0, 1) := by decide +kernel
theorem zd102_41 : decode zxm102.2.1 41 = .ok (.iload_n 0, 1) := by decide +kernel
theorem zd102_42 : decode zxm102.2.1 42 = .ok (.iload_n 0, 1) := by decide +kernel
theorem zd102_43 : decode zxm102.2.1 43 = .ok (.bipush 16, 2) := by decide +kernel
theorem zd102_45 : decode zxm102.2.1 45 = .ok (.iushr, 1) := by decide +kernel
theorem zd102_46 : decode zxm102.2.1 46 = .ok (.iadd, 1) := by decide +kernel
theorem zd102_47 : decode zxm102.2.1 47 = .ok (.istore_n 0, 1) := by decide +kernel
theorem zd102_48 : decode zxm102.2.1 48 = .ok (.iload_n 0, 1) := by decide +kernel
theorem zd102_49 : decode zxm102.2.1 49 = .ok (.bipush 63, 2) := by decide +kernel
theorem zd102_51 : decode zxm102.2.1 51 = .ok (.iand, 1) := by decide +kernel
theorem zd102_52 : decode zxm102.2.1 52 = .ok (.ireturn, 1) := by decide +kernel
theorem zt_Integer_bitCount {x0 : Int} {o : Int} (h : zf_Integer_bitCount x0 = some o) : zv_Fn z_TB z_cl z_KX zy_Integer_bitCount zxm102 (0, 0) [.inl x0] [] [] (some o) [] [] := zv_meth (K := (z_KF15, z_KC15, z_KL15, z_KT15, [], [], [], none)) (FT := z_FT) (MT := z_MT) (n := 1) zxp102 (z_ks15 _ (fun _ h => List.mem_cons_of_mem _ h) _ _ _ _ (fun j r h _ => by cases h)) (fun _ _ => zs_KX_p) zyw_Integer_bitCount (fun va F G h => by obtain ⟨rfl, _⟩ := h; rfl) (fun va F G h => by obtain ⟨rfl, _⟩ := h; rfl) rfl fun good va F G hB hret hvret hP => by
  obtain ⟨rfl, rfl, rfl⟩ := hP
  unfold zf_Integer_bitCount at h
  refine zv_ild hB zd102_0 rfl rfl ?_
  refine zv_ild hB zd102_1 rfl rfl ?_
  refine zv_con hB zd102_2 rfl ?_
  refine zv_ushw hB zd102_3 ?_
  refine zv_con (n := 1431655765) hB zd102_4 (by decide +kernel) ?_
  refine zv_andw hB zd102_7 ?_
  refine zv_subw hB zd102_8 ?_
  refine zv_ist hB zd102_9 rfl rfl rfl ?_
  refine zv_ild hB zd102_10 rfl rfl ?_
  refine zv_con (n := 858993459) hB zd102_11 (by decide +kernel) ?_
  refine zv_andw hB zd102_14 ?_
  refine zv_ild hB zd102_15 rfl rfl ?_
  refine zv_con hB zd102_16 rfl ?_
  refine zv_ushw hB zd102_17 ?_
  refine zv_con (n := 858993459) hB zd102_18 (by decide +kernel) ?_
  refine zv_andw hB zd102_21 ?_
  refine zv_addw hB zd102_22 ?_
  refine zv_ist hB zd102_23 rfl rfl rfl ?_
  obtain ⟨v1, hv1, h⟩ := zi_letp h
  rw [hv1]
  refine zv_ild hB zd102_24 rfl rfl ?_
  refine zv_ild hB zd102_25 rfl rfl ?_
  refine zv_con hB zd102_26 rfl ?_
  refine zv_ushw hB zd102_27 ?_
  refine zv_addw hB zd102_28 ?_
  refine zv_con (n := 252645135) hB zd102_29 (by decide +kernel) ?_
  refine zv_andw hB zd102_32 ?_
  refine zv_ist hB zd102_33 rfl rfl rfl ?_
  refine zv_ild hB zd102_34 rfl rfl ?_
  refine zv_ild hB zd102_35 rfl rfl ?_
  refine zv_con hB zd102_36 rfl ?_
  refine zv_ushw hB zd102_38 ?_
  refine zv_addw hB zd102_39 ?_
  refine zv_ist hB zd102_40 rfl rfl rfl ?_
  refine zv_ild hB zd102_41 rfl rfl ?_
  refine zv_ild hB zd102_42 rfl rfl ?_
  refine zv_con hB zd102_43 rfl ?_
  refine zv_ushw hB zd102_45 ?_
  refine zv_addw hB zd102_46 ?_
  refine zv_ist hB zd102_47 rfl rfl rfl ?_
  obtain ⟨v2, hv2, h⟩ := zi_letp h
  rw [hv2]
  refine zv_ild hB zd102_48 rfl rfl ?_
  refine zv_con hB zd102_49 rfl ?_
  refine zv_andw hB zd102_51 ?_
  have hw := Option.some.inj h
  subst hw
  exact hret _ _ _ _ _ zd102_52 (by trivial) ⟨rfl, rfl, rfl⟩
/-! View_countLines ()I -/
-- names: 0 View('arg', 0), 1 (0, 24)(0, 7, 5)
-- fields: ; arrays: g0 = 1; out: [('ret', None)]
abbrev zy_View_countLines : zNL := (2, [(0, 7)], [], [(0, 7, 5, 1)], [(1, 0, 24, 0)])
theorem zyw_View_countLines : zv_wf zy_View_countLines = true := by decide +kernel
theorem zye_View_countLines : zv_ek2 zy_View_countLines = true := by decide +kernel
def zf_View_countLines_l0_b (g0 : (Int → Int)) (rec : Int → Int → Option (Int)) (x1 : Int) (x2 : Int) : Option (Int) := if x2 < 24 then (cond (zi_ix x2 24) ((zf_Integer_bitCount (g0 x2)).bind fun r3 => (rec (zi_w (x1 + r3)) (zi_w (x2 + 1)))) none) else (some x1)
def zf_View_countLines_l0 (g0 : (Int → Int)) : Nat → Int → Int → Option (Int)
  | 0, _, _ => none
  | n + 1, x1, x2 => zf_View_countLines_l0_b g0 (zf_View_countLines_l0 g0 n) x1 x2
def zf_View_countLines (g0 : (Int → Int)) : Option (Int) := (zf_View_countLines_l0 g0 zi_fu 0 0).bind fun q4 => (some (zi_div q4 2))
theorem zd101_0 : decode zxm101.2.1 0 = .ok (.iconst 0, 1) := by decide +kernel
theorem zd101_1 : decode zxm101.2.1 1 = .ok (.istore_n 1, 1) := by decide +kernel
theorem zd101_2 : decode zxm101.2.1 2 = .ok (.iconst 0, 1) := by decide +kernel
theorem zd101_3 : decode zxm101.2.1 3 = .ok (.istore_n 2, 1) := by decide +kernel
theorem zd101_4 : decode zxm101.2.1 4 = .ok (.iload_n 2, 1) := by decide +kernel
theorem zd101_5 : decode zxm101.2.1 5 = .ok (.bipush 24, 2) := by decide +kernel
theorem zd101_7 : decode zxm101.2.1 7 = .ok (.if_icmp .ge 21, 3) := by decide +kernel
theorem zd101_10 : decode zxm101.2.1 10 = .ok (.iload_n 1, 1) := by decide +kernel
theorem zd101_11 : decode zxm101.2.1 11 = .ok (.aload_n 0, 1) := by decide +kernel
theorem zd101_12 : decode zxm101.2.1 12 = .ok (.getfield 21, 3) := by decide +kernel
theorem zd101_15 : decode zxm101.2.1 15 = .ok (.iload_n 2, 1) := by decide +kernel
theorem zd101_16 : decode zxm101.2.1 16 = .ok (.iaload, 1) := by decide +kernel
theorem zd101_17 : decode zxm101.2.1 17 = .ok (.invokestatic 131, 3) := by decide +kernel
theorem zd101_20 : decode zxm101.2.1 20 = .ok (.iadd, 1) := by decide +kernel
theorem zd101_21 : decode zxm101.2.1 21 = .ok (.istore_n 1, 1) := by decide +kernel
theorem zd101_22 : decode zxm101.2.1 22 = .ok (.iinc 2 1, 3) := by decide +kernel
theorem zd101_25 : decode zxm101.2.1 25 = .ok (.goto (-21), 3) := by decide +kernel
theorem zd101_28 : decode zxm101.2.1 28 = .ok (.iload_n 1, 1) := by decide +kernel
theorem zd101_29 : decode zxm101.2.1 29 = .ok (.iconst 2, 1) := by decide +kernel
theorem zd101_30 : decode zxm101.2.1 30 = .ok (.idiv, 1) := by decide +kernel
theorem zd101_31 : decode zxm101.2.1 31 = .ok (.ireturn, 1) := by decide +kernel
theorem zt_View_countLines {g0 : (Int → Int)} {o : Int} (h : zf_View_countLines g0 = some o) : zv_Fn z_TB z_cl z_KX zy_View_countLines zxm101 (1, 60) [.inr 0] [] [g0] (some o) [] [g0] := zv_meth (K := (z_KF11, z_KC11, z_KL11, z_KT11, [], [], [], none)) (FT := z_FT) (MT := z_MT) (n := 1) zxp101 (z_ks11 _ (fun _ h => List.mem_cons_of_mem _ h) _ _ _ _ (fun j r h _ => by cases h)) (fun _ _ => zs_KX_p) zyw_View_countLines (fun va F G h => by obtain ⟨rfl, _⟩ := h; rfl) (fun va F G h => by obtain ⟨rfl, _⟩ := h; rfl) rfl fun good va F G hB hret hvret hP => by
  obtain ⟨rfl, rfl, rfl⟩ := hP
  have l0 : ∀ (n : Nat) (x1 : Int) (x2 : Int) (q : Int), zf_View_countLines_l0 g0 n x1 x2 = some q → (good 28 [.inr 1000, .inl q, .inr 1000] [] [] [g0]) → good 4 [.inr 0, .inl x1, .inl x2] [] [] [g0] := by
    intro n
    induction n with
    | zero => intro x1 x2 q h; exact absurd (show none = some q from h) (fun h => by cases h)
    | succ n ih =>
      intro x1 x2 q h hK
      replace h : zf_View_countLines_l0_b g0 (zf_View_countLines_l0 g0 n) x1 x2 = some q := h
      unfold zf_View_countLines_l0_b at h
      refine zv_ild hB zd101_4 rfl rfl ?_
      refine zv_con hB zd101_5 rfl ?_
      refine zv_cge hB zd101_7 rfl (fun hc1 => ?_) (fun hc1 => ?_)
      · rw [if_neg (Int.not_lt.mpr hc1)] at h
        have hq := Option.some.inj h
        subst hq
        refine zv_wk hB (L' := [.inr 1000, .inl x1, .inr 1000]) (F' := []) ⟨fun (h : zv_is (.inr 1000)) => (Nat.lt_irrefl 1000 h).elim, fun _ => rfl, fun (h : zv_is (.inr 1000)) => (Nat.lt_irrefl 1000 h).elim, trivial⟩ trivial ?_
        exact hK
      · rw [if_pos hc1] at h
        refine zv_ild hB zd101_10 rfl rfl ?_
        refine zv_ald hB zd101_11 rfl rfl rfl ?_
        refine zv_getr hB zd101_12 rfl ?_
        refine zv_ild hB zd101_15 rfl rfl ?_
        obtain ⟨c2, h⟩ := zi_if h
        refine zv_iald hB zd101_16 rfl rfl (zi_ix_ok c2).1 (zi_ix_ok c2).2 (fun _ _ => ?_)
        obtain ⟨r3, hr3, h⟩ := zi_bind h
        refine zv_cs hB (zv_emq (va2 := [.inl (g0 x2)]) (F := []) (F' := []) (G := [g0]) (G' := [g0]) (ρ := []) (φ := []) (ψ := []) [] [none] zyw_Integer_bitCount zyw_View_countLines zye_View_countLines (by decide +kernel) (zt_Integer_bitCount hr3) trivial trivial rfl rfl rfl rfl rfl rfl rfl) zd101_17 zxt102 rfl (by decide) (by decide) rfl ?_
        refine zv_addw hB zd101_20 ?_
        refine zv_ist hB zd101_21 rfl rfl rfl ?_
        refine zv_iincw hB zd101_22 rfl rfl ?_
        refine zv_goto hB zd101_25 rfl ?_
        exact ih _ _ q h hK
  unfold zf_View_countLines at h
  refine zv_con hB zd101_0 rfl ?_
  refine zv_ist hB zd101_1 rfl rfl rfl ?_
  refine zv_con hB zd101_2 rfl ?_
  refine zv_ist hB zd101_3 rfl rfl rfl ?_
  obtain ⟨q4, hq4, h⟩ := zi_bind h
  refine l0 _ _ _ q4 hq4 ?_
  show good 28 [.inr 1000, .inl q4, .inr 1000] [] [] [g0]
  refine zv_ild hB zd101_28 rfl rfl ?_
  refine zv_con hB zd101_29 rfl ?_
  refine zv_divw hB zd101_30 (by decide) ?_
  have hw := Option.some.inj h
  subst hw
  exact hret _ _ _ _ _ zd101_31 (by trivial) ⟨rfl, rfl, rfl⟩
/-! X_lowestOf (I)I -/
-- names: 
-- fields: ; arrays: ; out: [('ret', None)]
abbrev zy_X_lowestOf : zNL := (0, [], [], [], [])
theorem zyw_X_lowestOf : zv_wf zy_X_lowestOf = true := by decide +kernel
theorem zye_X_lowestOf : zv_ek2 zy_X_lowestOf = true := by decide +kernel
def zf_X_lowestOf (x0 : Int) : Option (Int) := (zf_Integer_bitCount (zi_w ((zi_and x0 (zi_w (-x0))) - 1))).bind fun r1 => (some r1)
theorem zd105_0 : decode zxm105.2.1 0 = .ok (.iload_n 0, 1) := by decide +kernel
theorem zd105_1 : decode zxm105.2.1 1 = .ok (.iload_n 0, 1) := by decide +kernel
theorem zd105_2 : decode zxm105.2.1 2 = .ok (.ineg, 1) := by decide +kernel
theorem zd105_3 : decode zxm105.2.1 3 = .ok (.iand, 1) := by decide +kernel
theorem zd105_4 : decode zxm105.2.1 4 = .ok (.iconst 1, 1) := by decide +kernel
theorem zd105_5 : decode zxm105.2.1 5 = .ok (.isub, 1) := by decide +kernel
theorem zd105_6 : decode zxm105.2.1 6 = .ok (.invokestatic 235, 3) := by decide +kernel
theorem zd105_9 : decode zxm105.2.1 9 = .ok (.ireturn, 1) := by decide +kernel
theorem zt_X_lowestOf {x0 : Int} {o : Int} (h : zf_X_lowestOf x0 = some o) : zv_Fn z_TB z_cl z_KX zy_X_lowestOf zxm105 (1, 60) [.inl x0] [] [] (some o) [] [] := zv_meth (K := (z_KF0, z_KC0, z_KL0, z_KT0, [], [], [], none)) (FT := z_FT) (MT := z_MT) (n := 1) zxp105 (z_ks0 _ (fun _ h => List.mem_cons_of_mem _ h) _ _ _ _ (fun j r h _ => by cases h)) (fun _ _ => zs_KX_p) zyw_X_lowestOf (fun va F G h => by obtain ⟨rfl, _⟩ := h; rfl) (fun va F G h => by obtain ⟨rfl, _⟩ := h; rfl) rfl fun good va F G hB hret hvret hP => by
  obtain ⟨rfl, rfl, rfl⟩ := hP
  unfold zf_X_lowestOf at h
  refine zv_ild hB zd105_0 rfl rfl ?_
  refine zv_ild hB zd105_1 rfl rfl ?_
  refine zv_negw hB zd105_2 ?_
  refine zv_andw hB zd105_3 ?_
  refine zv_con hB zd105_4 rfl ?_
  refine zv_subw hB zd105_5 ?_
  obtain ⟨r1, hr1, h⟩ := zi_bind h
  refine zv_cs hB (zv_emq (va2 := [.inl (zi_w ((zi_and x0 (zi_w (-x0))) - 1))]) (F := []) (F' := []) (G := []) (G' := []) (ρ := []) (φ := []) (ψ := []) [] [] zyw_Integer_bitCount zyw_X_lowestOf zye_X_lowestOf (by decide +kernel) (zt_Integer_bitCount hr1) trivial trivial rfl rfl rfl rfl rfl rfl rfl) zd105_6 zxt102 rfl (by decide) (by decide) rfl ?_
  have hw := Option.some.inj h
  subst hw
  exact hret _ _ _ _ _ zd105_9 (by trivial) ⟨rfl, rfl, rfl⟩
/-! View_reach (III)I -/
-- names: 0 View('arg', 0), 1 (0, 24)(0, 7, 5)
-- fields: ; arrays: g0 = 1; out: [('ret', None)]
abbrev zy_View_reach : zNL := (2, [(0, 7)], [], [(0, 7, 5, 1)], [(1, 0, 24, 0)])
theorem zyw_View_reach : zv_wf zy_View_reach = true := by decide +kernel
theorem zye_View_reach : zv_ek2 zy_View_reach = true := by decide +kernel
def zf_View_reach_l0_b (x2 : Int) (x3 : Int) (g0 : (Int → Int)) (rec : Int → Int → Int → Option (Int)) (x4 : Int) (x5 : Int) (x6 : Int) : Option (Int) := if x6 < 24 then (if x5 = 0 then (some x4) else ((zf_X_lowestOf x5).bind fun r3 => (cond (zi_ix r3 24) (if r3 = x2 then (rec (zi_or x4 (zi_and (g0 r3) (zi_xor (zi_shl 1 x3) (-1)))) (zi_and (zi_or x5 (zi_and (zi_and (g0 r3) (zi_xor (zi_shl 1 x3) (-1))) (zi_xor x4 (-1)))) (zi_xor (zi_shl 1 r3) (-1))) (zi_w (x6 + 1))) else (if r3 = x3 then (rec (zi_or x4 (zi_and (g0 r3) (zi_xor (zi_shl 1 x2) (-1)))) (zi_and (zi_or x5 (zi_and (zi_and (g0 r3) (zi_xor (zi_shl 1 x2) (-1))) (zi_xor x4 (-1)))) (zi_xor (zi_shl 1 r3) (-1))) (zi_w (x6 + 1))) else (rec (zi_or x4 (g0 r3)) (zi_and (zi_or x5 (zi_and (g0 r3) (zi_xor x4 (-1)))) (zi_xor (zi_shl 1 r3) (-1))) (zi_w (x6 + 1))))) none))) else (some x4)
def zf_View_reach_l0 (x2 : Int) (x3 : Int) (g0 : (Int → Int)) : Nat → Int → Int → Int → Option (Int)
  | 0, _, _, _ => none
  | n + 1, x4, x5, x6 => zf_View_reach_l0_b x2 x3 g0 (zf_View_reach_l0 x2 x3 g0 n) x4 x5 x6
def zf_View_reach (x1 : Int) (x2 : Int) (x3 : Int) (g0 : (Int → Int)) : Option (Int) := (zf_View_reach_l0 x2 x3 g0 zi_fu (zi_shl 1 x1) (zi_shl 1 x1) 0).bind fun q7 => (some q7)
theorem zd104_0 : decode zxm104.2.1 0 = .ok (.iconst 1, 1) := by decide +kernel
theorem zd104_1 : decode zxm104.2.1 1 = .ok (.iload_n 1, 1) := by decide +kernel
theorem zd104_2 : decode zxm104.2.1 2 = .ok (.ishl, 1) := by decide +kernel
theorem zd104_3 : decode zxm104.2.1 3 = .ok (.istore 4, 2) := by decide +kernel
theorem zd104_5 : decode zxm104.2.1 5 = .ok (.iload 4, 2) := by decide +kernel
theorem zd104_7 : decode zxm104.2.1 7 = .ok (.istore 5, 2) := by decide +kernel
theorem zd104_9 : decode zxm104.2.1 9 = .ok (.iconst 0, 1) := by decide +kernel
theorem zd104_10 : decode zxm104.2.1 10 = .ok (.istore 6, 2) := by decide +kernel
theorem zd104_12 : decode zxm104.2.1 12 = .ok (.iload 6, 2) := by decide +kernel
theorem zd104_14 : decode zxm104.2.1 14 = .ok (.bipush 24, 2) := by decide +kernel
theorem zd104_16 : decode zxm104.2.1 16 = .ok (.if_icmp .ge 91, 3) := by decide +kernel
theorem zd104_19 : decode zxm104.2.1 19 = .ok (.iload 5, 2) := by decide +kernel
theorem zd104_21 : decode zxm104.2.1 21 = .ok (.ifCond .eq 86, 3) := by decide +kernel
theorem zd104_24 : decode zxm104.2.1 24 = .ok (.iload 5, 2) := by decide +kernel
theorem zd104_26 : decode zxm104.2.1 26 = .ok (.invokestatic 136, 3) := by decide +kernel
theorem zd104_29 : decode zxm104.2.1 29 = .ok (.istore 7, 2) := by decide +kernel
theorem zd104_31 : decode zxm104.2.1 31 = .ok (.aload_n 0, 1) := by decide +kernel
theorem zd104_32 : decode zxm104.2.1 32 = .ok (.getfield 21, 3) := by decide +kernel
theorem zd104_35 : decode zxm104.2.1 35 = .ok (.iload 7, 2) := by decide +kernel
theorem zd104_37 : decode zxm104.2.1 37 = .ok (.iaload, 1) := by decide +kernel
theorem zd104_38 : decode zxm104.2.1 38 = .ok (.istore 8, 2) := by decide +kernel
theorem zd104_40 : decode zxm104.2.1 40 = .ok (.iload 7, 2) := by decide +kernel
theorem zd104_42 : decode zxm104.2.1 42 = .ok (.iload_n 2, 1) := by decide +kernel
theorem zd104_43 : decode zxm104.2.1 43 = .ok (.if_icmp .ne 16, 3) := by decide +kernel
theorem zd104_46 : decode zxm104.2.1 46 = .ok (.iload 8, 2) := by decide +kernel
theorem zd104_48 : decode zxm104.2.1 48 = .ok (.iconst 1, 1) := by decide +kernel
theorem zd104_49 : decode zxm104.2.1 49 = .ok (.iload_n 3, 1) := by decide +kernel
theorem zd104_50 : decode zxm104.2.1 50 = .ok (.ishl, 1) := by decide +kernel
theorem zd104_51 : decode zxm104.2.1 51 = .ok (.iconst (-1), 1) := by decide +kernel
theorem zd104_52 : decode zxm104.2.1 52 = .ok (.ixor, 1) := by decide +kernel
theorem zd104_53 : decode zxm104.2.1 53 = .ok (.iand, 1) := by decide +kernel
theorem zd104_54 : decode zxm104.2.1 54 = .ok (.istore 8, 2) := by decide +kernel
theorem zd104_56 : decode zxm104.2.1 56 = .ok (.goto 19, 3) := by decide +kernel
theorem zd104_59 : decode zxm104.2.1 59 = .ok (.iload 7, 2) := by decide +kernel
theorem zd104_61 : decode zxm104.2.1 61 = .ok (.iload_n 3, 1) := by decide +kernel
theorem zd104_62 : decode zxm104.2.1 62 = .ok (.if_icmp .ne 13, 3) := by decide +kernel
theorem zd104_65 : decode zxm104.2.1 65 = .ok (.iload 8, 2) := by decide +kernel
theorem zd104_67 : decode zxm104.2.1 67 = .ok (.iconst 1, 1) := by decide +kernel
theorem zd104_68 : decode zxm104.2.1 68 = .ok (.iload_n 2, 1) := by decide +kernel
theorem zd104_69 : decode zxm104.2.1 69 = .ok (.ishl, 1) := by decide +kernel
theorem zd104_70 : decode zxm104.2.1 70 = .ok (.iconst (-1), 1) := by decide +kernel
theorem zd104_71 : decode zxm104.2.1 71 = .ok (.ixor, 1) := by decide +kernel
theorem zd104_72 : decode zxm104.2.1 72 = .ok (.iand, 1) := by decide +kernel
theorem zd104_73 : decode zxm104.2.1 73 = .ok (.istore 8, 2) := by decide +kernel
theorem zd104_75 : decode zxm104.2.1 75 = .ok (.iload 5, 2) := by decide +kernel
theorem zd104_77 : decode zxm104.2.1 77 = .ok (.iload 8, 2) := by decide +kernel
theorem zd104_79 : decode zxm104.2.1 79 = .ok (.iload 4, 2) := by decide +kernel
theorem zd104_81 : decode zxm104.2.1 81 = .ok (.iconst (-1), 1) := by decide +kernel
theorem zd104_82 : decode zxm104.2.1 82 = .ok (.ixor, 1) := by decide +kernel
theorem zd104_83 : decode zxm104.2.1 83 = .ok (.iand, 1) := by decide +kernel
theorem zd104_84 : decode zxm104.2.1 84 = .ok (.ior, 1) := by decide +kernel
theorem zd104_85 : decode zxm104.2.1 85 = .ok (.iconst 1, 1) := by decide +kernel
theorem zd104_86 : decode zxm104.2.1 86 = .ok (.iload 7, 2) := by decide +kernel
theorem zd104_88 : decode zxm104.2.1 88 = .ok (.ishl, 1) := by decide +kernel
theorem zd104_89 : decode zxm104.2.1 89 = .ok (.iconst (-1), 1) := by decide +kernel
theorem zd104_90 : decode zxm104.2.1 90 = .ok (.ixor, 1) := by decide +kernel
theorem zd104_91 : decode zxm104.2.1 91 = .ok (.iand, 1) := by decide +kernel
theorem zd104_92 : decode zxm104.2.1 92 = .ok (.istore 5, 2) := by decide +kernel
theorem zd104_94 : decode zxm104.2.1 94 = .ok (.iload 4, 2) := by decide +kernel
theorem zd104_96 : decode zxm104.2.1 96 = .ok (.iload 8, 2) := by decide +kernel
theorem zd104_98 : decode zxm104.2.1 98 = .ok (.ior, 1) := by decide +kernel
theorem zd104_99 : decode zxm104.2.1 99 = .ok (.istore 4, 2) := by decide +kernel
theorem zd104_101 : decode zxm104.2.1 101 = .ok (.iinc 6 1, 3) := by decide +kernel
theorem zd104_104 : decode zxm104.2.1 104 = .ok (.goto (-92), 3) := by decide +kernel
theorem zd104_107 : decode zxm104.2.1 107 = .ok (.iload 4, 2) := by decide +kernel
theorem zd104_109 : decode zxm104.2.1 109 = .ok (.ireturn, 1) := by decide +kernel
theorem zt_View_reach {x1 : Int} {x2 : Int} {x3 : Int} {g0 : (Int → Int)} {o : Int} (h : zf_View_reach x1 x2 x3 g0 = some o) : zv_Fn z_TB z_cl z_KX zy_View_reach zxm104 (2, 120) [.inr 0, .inl x1, .inl x2, .inl x3] [] [g0] (some o) [] [g0] := zv_meth (K := (z_KF11, z_KC11, z_KL11, z_KT11, [], [], [], none)) (FT := z_FT) (MT := z_MT) (n := 4) zxp104 (z_ks11 _ (fun _ h => List.mem_cons_of_mem _ h) _ _ _ _ (fun j r h _ => by cases h)) (fun _ _ => zs_KX_p) zyw_View_reach (fun va F G h => by obtain ⟨rfl, _⟩ := h; rfl) (fun va F G h => by obtain ⟨rfl, _⟩ := h; rfl) rfl fun good va F G hB hret hvret hP => by
  obtain ⟨rfl, rfl, rfl⟩ := hP
  have l0 : ∀ (n : Nat) (x2 : Int) (x3 : Int) (x4 : Int) (x5 : Int) (x6 : Int) (q : Int), zf_View_reach_l0 x2 x3 g0 n x4 x5 x6 = some q → (good 107 [.inr 1000, .inr 1000, .inr 1000, .inr 1000, .inl q, .inr 1000, .inr 1000, .inr 1000, .inr 1000] [] [] [g0]) → good 12 [.inr 0, .inr 1000, .inl x2, .inl x3, .inl x4, .inl x5, .inl x6, .inr 1000, .inr 1000] [] [] [g0] := by
    intro n
    induction n with
    | zero => intro x2 x3 x4 x5 x6 q h; exact absurd (show none = some q from h) (fun h => by cases h)
    | succ n ih =>
      intro x2 x3 x4 x5 x6 q h hK
      replace h : zf_View_reach_l0_b x2 x3 g0 (zf_View_reach_l0 x2 x3 g0 n) x4 x5 x6 = some q := h
      unfold zf_View_reach_l0_b at h
      refine zv_ild hB zd104_12 rfl rfl ?_
      refine zv_con hB zd104_14 rfl ?_
      refine zv_cge hB zd104_16 rfl (fun hc1 => ?_) (fun hc1 => ?_)
      · rw [if_neg (Int.not_lt.mpr hc1)] at h
        have hq := Option.some.inj h
        subst hq
        refine zv_wk hB (L' := [.inr 1000, .inr 1000, .inr 1000, .inr 1000, .inl x4, .inr 1000, .inr 1000, .inr 1000, .inr 1000]) (F' := []) ⟨fun (h : zv_is (.inr 1000)) => (Nat.lt_irrefl 1000 h).elim, fun (h : zv_is (.inr 1000)) => (Nat.lt_irrefl 1000 h).elim, fun (h : zv_is (.inr 1000)) => (Nat.lt_irrefl 1000 h).elim, fun (h : zv_is (.inr 1000)) => (Nat.lt_irrefl 1000 h).elim, fun _ => rfl, fun (h : zv_is (.inr 1000)) => (Nat.lt_irrefl 1000 h).elim, fun (h : zv_is (.inr 1000)) => (Nat.lt_irrefl 1000 h).elim, fun (h : zv_is (.inr 1000)) => (Nat.lt_irrefl 1000 h).elim, fun (h : zv_is (.inr 1000)) => (Nat.lt_irrefl 1000 h).elim, trivial⟩ trivial ?_
        exact hK
      · rw [if_pos hc1] at h
        refine zv_ild hB zd104_19 rfl rfl ?_
        refine zv_zeq hB zd104_21 rfl (fun hc2 => ?_) (fun hc2 => ?_)
        · rw [if_pos hc2] at h
          have hq := Option.some.inj h
          subst hq
          refine zv_wk hB (L' := [.inr 1000, .inr 1000, .inr 1000, .inr 1000, .inl x4, .inr 1000, .inr 1000, .inr 1000, .inr 1000]) (F' := []) ⟨fun (h : zv_is (.inr 1000)) => (Nat.lt_irrefl 1000 h).elim, fun (h : zv_is (.inr 1000)) => (Nat.lt_irrefl 1000 h).elim, fun (h : zv_is (.inr 1000)) => (Nat.lt_irrefl 1000 h).elim, fun (h : zv_is (.inr 1000)) => (Nat.lt_irrefl 1000 h).elim, fun _ => rfl, fun (h : zv_is (.inr 1000)) => (Nat.lt_irrefl 1000 h).elim, fun (h : zv_is (.inr 1000)) => (Nat.lt_irrefl 1000 h).elim, fun (h : zv_is (.inr 1000)) => (Nat.lt_irrefl 1000 h).elim, fun (h : zv_is (.inr 1000)) => (Nat.lt_irrefl 1000 h).elim, trivial⟩ trivial ?_
          exact hK
        · rw [if_neg hc2] at h
          refine zv_ild hB zd104_24 rfl rfl ?_
          obtain ⟨r3, hr3, h⟩ := zi_bind h
          refine zv_cs hB (zv_emq (va2 := [.inl x5]) (F := []) (F' := []) (G := [g0]) (G' := [g0]) (ρ := []) (φ := []) (ψ := []) [] [none] zyw_X_lowestOf zyw_View_reach zye_View_reach (by decide +kernel) (zt_X_lowestOf hr3) trivial trivial rfl rfl rfl rfl rfl rfl rfl) zd104_26 zxt105 rfl (by decide) (by decide) rfl ?_
          refine zv_ist hB zd104_29 rfl rfl rfl ?_
          refine zv_ald hB zd104_31 rfl rfl rfl ?_
          refine zv_getr hB zd104_32 rfl ?_
          refine zv_ild hB zd104_35 rfl rfl ?_
          obtain ⟨c4, h⟩ := zi_if h
          refine zv_iald hB zd104_37 rfl rfl (zi_ix_ok c4).1 (zi_ix_ok c4).2 (fun _ _ => ?_)
          refine zv_ist hB zd104_38 rfl rfl rfl ?_
          refine zv_ild hB zd104_40 rfl rfl ?_
          refine zv_ild hB zd104_42 rfl rfl ?_
          refine zv_cne hB zd104_43 rfl (fun hc5 => ?_) (fun hc5 => ?_)
          · rw [if_neg hc5] at h
            refine zv_ild hB zd104_59 rfl rfl ?_
            refine zv_ild hB zd104_61 rfl rfl ?_
            refine zv_cne hB zd104_62 rfl (fun hc6 => ?_) (fun hc6 => ?_)
            · rw [if_neg hc6] at h
              refine zv_ild hB zd104_75 rfl rfl ?_
              refine zv_ild hB zd104_77 rfl rfl ?_
              refine zv_ild hB zd104_79 rfl rfl ?_
              refine zv_con hB zd104_81 rfl ?_
              refine zv_xorw hB zd104_82 ?_
              refine zv_andw hB zd104_83 ?_
              refine zv_orw hB zd104_84 ?_
              refine zv_con hB zd104_85 rfl ?_
              refine zv_ild hB zd104_86 rfl rfl ?_
              refine zv_shlw hB zd104_88 ?_
              refine zv_con hB zd104_89 rfl ?_
              refine zv_xorw hB zd104_90 ?_
              refine zv_andw hB zd104_91 ?_
              refine zv_ist hB zd104_92 rfl rfl rfl ?_
              refine zv_ild hB zd104_94 rfl rfl ?_
              refine zv_ild hB zd104_96 rfl rfl ?_
              refine zv_orw hB zd104_98 ?_
              refine zv_ist hB zd104_99 rfl rfl rfl ?_
              refine zv_iincw hB zd104_101 rfl rfl ?_
              refine zv_goto hB zd104_104 rfl ?_
              refine zv_wk hB (L' := [.inr 0, .inr 1000, .inl x2, .inl x3, .inl (zi_or x4 (g0 r3)), .inl (zi_and (zi_or x5 (zi_and (g0 r3) (zi_xor x4 (-1)))) (zi_xor (zi_shl 1 r3) (-1))), .inl (zi_w (x6 + 1)), .inr 1000, .inr 1000]) (F' := []) ⟨fun _ => rfl, fun (h : zv_is (.inr 1000)) => (Nat.lt_irrefl 1000 h).elim, fun _ => rfl, fun _ => rfl, fun _ => rfl, fun _ => rfl, fun _ => rfl, fun (h : zv_is (.inr 1000)) => (Nat.lt_irrefl 1000 h).elim, fun (h : zv_is (.inr 1000)) => (Nat.lt_irrefl 1000 h).elim, trivial⟩ trivial ?_
              exact ih _ _ _ _ _ q h hK
            · rw [if_pos hc6] at h
              refine zv_ild hB zd104_65 rfl rfl ?_
              refine zv_con hB zd104_67 rfl ?_
              refine zv_ild hB zd104_68 rfl rfl ?_
              refine zv_shlw hB zd104_69 ?_
              refine zv_con hB zd104_70 rfl ?_
              refine zv_xorw hB zd104_71 ?_
              refine zv_andw hB zd104_72 ?_
              refine zv_ist hB zd104_73 rfl rfl rfl ?_
              refine zv_ild hB zd104_75 rfl rfl ?_
              refine zv_ild hB zd104_77 rfl rfl ?_
              refine zv_ild hB zd104_79 rfl rfl ?_
              refine zv_con hB zd104_81 rfl ?_
              refine zv_xorw hB zd104_82 ?_
              refine zv_andw hB zd104_83 ?_
              refine zv_orw hB zd104_84 ?_
              refine zv_con hB zd104_85 rfl ?_
              refine zv_ild hB zd104_86 rfl rfl ?_
              refine zv_shlw hB zd104_88 ?_
              refine zv_con hB zd104_89 rfl ?_
              refine zv_xorw hB zd104_90 ?_
              refine zv_andw hB zd104_91 ?_
              refine zv_ist hB zd104_92 rfl rfl rfl ?_
              refine zv_ild hB zd104_94 rfl rfl ?_
              refine zv_ild hB zd104_96 rfl rfl ?_
              refine zv_orw hB zd104_98 ?_
              refine zv_ist hB zd104_99 rfl rfl rfl ?_
              refine zv_iincw hB zd104_101 rfl rfl ?_
              refine zv_goto hB zd104_104 rfl ?_
              refine zv_wk hB (L' := [.inr 0, .inr 1000, .inl x2, .inl x3, .inl (zi_or x4 (zi_and (g0 r3) (zi_xor (zi_shl 1 x2) (-1)))), .inl (zi_and (zi_or x5 (zi_and (zi_and (g0 r3) (zi_xor (zi_shl 1 x2) (-1))) (zi_xor x4 (-1)))) (zi_xor (zi_shl 1 r3) (-1))), .inl (zi_w (x6 + 1)), .inr 1000, .inr 1000]) (F' := []) ⟨fun _ => rfl, fun (h : zv_is (.inr 1000)) => (Nat.lt_irrefl 1000 h).elim, fun _ => rfl, fun _ => rfl, fun _ => rfl, fun _ => rfl, fun _ => rfl, fun (h : zv_is (.inr 1000)) => (Nat.lt_irrefl 1000 h).elim, fun (h : zv_is (.inr 1000)) => (Nat.lt_irrefl 1000 h).elim, trivial⟩ trivial ?_
              exact ih _ _ _ _ _ q h hK
          · rw [if_pos hc5] at h
            refine zv_ild hB zd104_46 rfl rfl ?_
            refine zv_con hB zd104_48 rfl ?_
            refine zv_ild hB zd104_49 rfl rfl ?_
            refine zv_shlw hB zd104_50 ?_
            refine zv_con hB zd104_51 rfl ?_
            refine zv_xorw hB zd104_52 ?_
            refine zv_andw hB zd104_53 ?_
            refine zv_ist hB zd104_54 rfl rfl rfl ?_
            refine zv_goto hB zd104_56 rfl ?_
            refine zv_ild hB zd104_75 rfl rfl ?_
            refine zv_ild hB zd104_77 rfl rfl ?_
            refine zv_ild hB zd104_79 rfl rfl ?_
            refine zv_con hB zd104_81 rfl ?_
            refine zv_xorw hB zd104_82 ?_
            refine zv_andw hB zd104_83 ?_
            refine zv_orw hB zd104_84 ?_
            refine zv_con hB zd104_85 rfl ?_
            refine zv_ild hB zd104_86 rfl rfl ?_
            refine zv_shlw hB zd104_88 ?_
            refine zv_con hB zd104_89 rfl ?_
            refine zv_xorw hB zd104_90 ?_
            refine zv_andw hB zd104_91 ?_
            refine zv_ist hB zd104_92 rfl rfl rfl ?_
            refine zv_ild hB zd104_94 rfl rfl ?_
            refine zv_ild hB zd104_96 rfl rfl ?_
            refine zv_orw hB zd104_98 ?_
            refine zv_ist hB zd104_99 rfl rfl rfl ?_
            refine zv_iincw hB zd104_101 rfl rfl ?_
            refine zv_goto hB zd104_104 rfl ?_
            refine zv_wk hB (L' := [.inr 0, .inr 1000, .inl x2, .inl x3, .inl (zi_or x4 (zi_and (g0 r3) (zi_xor (zi_shl 1 x3) (-1)))), .inl (zi_and (zi_or x5 (zi_and (zi_and (g0 r3) (zi_xor (zi_shl 1 x3) (-1))) (zi_xor x4 (-1)))) (zi_xor (zi_shl 1 r3) (-1))), .inl (zi_w (x6 + 1)), .inr 1000, .inr 1000]) (F' := []) ⟨fun _ => rfl, fun (h : zv_is (.inr 1000)) => (Nat.lt_irrefl 1000 h).elim, fun _ => rfl, fun _ => rfl, fun _ => rfl, fun _ => rfl, fun _ => rfl, fun (h : zv_is (.inr 1000)) => (Nat.lt_irrefl 1000 h).elim, fun (h : zv_is (.inr 1000)) => (Nat.lt_irrefl 1000 h).elim, trivial⟩ trivial ?_
            exact ih _ _ _ _ _ q h hK
  unfold zf_View_reach at h
  refine zv_con hB zd104_0 rfl ?_
  refine zv_ild hB zd104_1 rfl rfl ?_
  refine zv_shlw hB zd104_2 ?_
  refine zv_ist hB zd104_3 rfl rfl rfl ?_
  refine zv_ild hB zd104_5 rfl rfl ?_
  refine zv_ist hB zd104_7 rfl rfl rfl ?_
  refine zv_con hB zd104_9 rfl ?_
  refine zv_ist hB zd104_10 rfl rfl rfl ?_
  obtain ⟨q7, hq7, h⟩ := zi_bind h
  refine zv_wk hB (L' := [.inr 0, .inr 1000, .inl x2, .inl x3, .inl (zi_shl 1 x1), .inl (zi_shl 1 x1), .inl 0, .inr 1000, .inr 1000]) (F' := []) ⟨fun _ => rfl, fun (h : zv_is (.inr 1000)) => (Nat.lt_irrefl 1000 h).elim, fun _ => rfl, fun _ => rfl, fun _ => rfl, fun _ => rfl, fun _ => rfl, fun (h : zv_is (.inr 1000)) => (Nat.lt_irrefl 1000 h).elim, fun (h : zv_is (.inr 1000)) => (Nat.lt_irrefl 1000 h).elim, trivial⟩ trivial ?_
  refine l0 _ _ _ _ _ _ q7 hq7 ?_
  show good 107 [.inr 1000, .inr 1000, .inr 1000, .inr 1000, .inl q7, .inr 1000, .inr 1000, .inr 1000, .inr 1000] [] [] [g0]
  refine zv_ild hB zd104_107 rfl rfl ?_
  have hw := Option.some.inj h
  subst hw
  exact hret _ _ _ _ _ zd104_109 (by trivial) ⟨rfl, rfl, rfl⟩
/-! View_countFigures ()I -/
-- names: 0 View('arg', 0), 1 (0, 24)(0, 7, 5)
-- fields: f0 = 0.shown_; arrays: g0 = 1; out: [('ret', None)]
abbrev zy_View_countFigures : zNL := (2, [(0, 7)], [(0, 7, 4, 0)], [(0, 7, 5, 1)], [(1, 0, 24, 0)])
theorem zyw_View_countFigures : zv_wf zy_View_countFigures = true := by decide +kernel
theorem zye_View_countFigures : zv_ek2 zy_View_countFigures = true := by decide +kernel
def zf_View_countFigures_l0_b (g0 : (Int → Int)) (rec : Int → Int → Int → Option (Int)) (x1 : Int) (x2 : Int) (x3 : Int) : Option (Int) := if x3 < 24 then (if (zi_and (zi_shr x2 x3) 1) = 0 then (rec x1 x2 (zi_w (x3 + 1))) else ((zf_View_reach x3 (-1) (-1) g0).bind fun r3 => (rec (zi_w (x1 + 1)) (zi_and x2 (zi_xor r3 (-1))) (zi_w (x3 + 1))))) else (some x1)
def zf_View_countFigures_l0 (g0 : (Int → Int)) : Nat → Int → Int → Int → Option (Int)
  | 0, _, _, _ => none
  | n + 1, x1, x2, x3 => zf_View_countFigures_l0_b g0 (zf_View_countFigures_l0 g0 n) x1 x2 x3
def zf_View_countFigures (f0 : Int) (g0 : (Int → Int)) : Option (Int) := (zf_View_countFigures_l0 g0 zi_fu 0 f0 0).bind fun q4 => (some q4)
theorem zd103_0 : decode zxm103.2.1 0 = .ok (.iconst 0, 1) := by decide +kernel
theorem zd103_1 : decode zxm103.2.1 1 = .ok (.istore_n 1, 1) := by decide +kernel
theorem zd103_2 : decode zxm103.2.1 2 = .ok (.aload_n 0, 1) := by decide +kernel
theorem zd103_3 : decode zxm103.2.1 3 = .ok (.getfield 18, 3) := by decide +kernel
theorem zd103_6 : decode zxm103.2.1 6 = .ok (.istore_n 2, 1) := by decide +kernel
theorem zd103_7 : decode zxm103.2.1 7 = .ok (.iconst 0, 1) := by decide +kernel
theorem zd103_8 : decode zxm103.2.1 8 = .ok (.istore_n 3, 1) := by decide +kernel
theorem zd103_9 : decode zxm103.2.1 9 = .ok (.iload_n 3, 1) := by decide +kernel
theorem zd103_10 : decode zxm103.2.1 10 = .ok (.bipush 24, 2) := by decide +kernel
theorem zd103_12 : decode zxm103.2.1 12 = .ok (.if_icmp .ge 32, 3) := by decide +kernel
theorem zd103_15 : decode zxm103.2.1 15 = .ok (.iload_n 2, 1) := by decide +kernel
theorem zd103_16 : decode zxm103.2.1 16 = .ok (.iload_n 3, 1) := by decide +kernel
theorem zd103_17 : decode zxm103.2.1 17 = .ok (.ishr, 1) := by decide +kernel
theorem zd103_18 : decode zxm103.2.1 18 = .ok (.iconst 1, 1) := by decide +kernel
theorem zd103_19 : decode zxm103.2.1 19 = .ok (.iand, 1) := by decide +kernel
theorem zd103_20 : decode zxm103.2.1 20 = .ok (.ifCond .eq 18, 3) := by decide +kernel
theorem zd103_23 : decode zxm103.2.1 23 = .ok (.iinc 1 1, 3) := by decide +kernel
theorem zd103_26 : decode zxm103.2.1 26 = .ok (.iload_n 2, 1) := by decide +kernel
theorem zd103_27 : decode zxm103.2.1 27 = .ok (.aload_n 0, 1) := by decide +kernel
theorem zd103_28 : decode zxm103.2.1 28 = .ok (.iload_n 3, 1) := by decide +kernel
theorem zd103_29 : decode zxm103.2.1 29 = .ok (.iconst (-1), 1) := by decide +kernel
theorem zd103_30 : decode zxm103.2.1 30 = .ok (.iconst (-1), 1) := by decide +kernel
theorem zd103_31 : decode zxm103.2.1 31 = .ok (.invokevirtual 139, 3) := by decide +kernel
theorem zd103_34 : decode zxm103.2.1 34 = .ok (.iconst (-1), 1) := by decide +kernel
theorem zd103_35 : decode zxm103.2.1 35 = .ok (.ixor, 1) := by decide +kernel
theorem zd103_36 : decode zxm103.2.1 36 = .ok (.iand, 1) := by decide +kernel
theorem zd103_37 : decode zxm103.2.1 37 = .ok (.istore_n 2, 1) := by decide +kernel
theorem zd103_38 : decode zxm103.2.1 38 = .ok (.iinc 3 1, 3) := by decide +kernel
theorem zd103_41 : decode zxm103.2.1 41 = .ok (.goto (-32), 3) := by decide +kernel
theorem zd103_44 : decode zxm103.2.1 44 = .ok (.iload_n 1, 1) := by decide +kernel
theorem zd103_45 : decode zxm103.2.1 45 = .ok (.ireturn, 1) := by decide +kernel
theorem zt_View_countFigures {f0 : Int} {g0 : (Int → Int)} {o : Int} (h : zf_View_countFigures f0 g0 = some o) : zv_Fn z_TB z_cl z_KX zy_View_countFigures zxm103 (3, 180) [.inr 0] [.inl f0] [g0] (some o) [.inl f0] [g0] := zv_meth (K := (z_KF11, z_KC11, z_KL11, z_KT11, [], [], [], none)) (FT := z_FT) (MT := z_MT) (n := 1) zxp103 (z_ks11 _ (fun _ h => List.mem_cons_of_mem _ h) _ _ _ _ (fun j r h _ => by cases h)) (fun _ _ => zs_KX_p) zyw_View_countFigures (fun va F G h => by obtain ⟨rfl, _⟩ := h; rfl) (fun va F G h => by obtain ⟨rfl, _⟩ := h; rfl) rfl fun good va F G hB hret hvret hP => by
  obtain ⟨rfl, rfl, rfl⟩ := hP
  have l0 : ∀ (n : Nat) (x1 : Int) (x2 : Int) (x3 : Int) (q : Int), zf_View_countFigures_l0 g0 n x1 x2 x3 = some q → (good 44 [.inr 1000, .inl q, .inr 1000, .inr 1000] [] [.inl f0] [g0]) → good 9 [.inr 0, .inl x1, .inl x2, .inl x3] [] [.inl f0] [g0] := by
    intro n
    induction n with
    | zero => intro x1 x2 x3 q h; exact absurd (show none = some q from h) (fun h => by cases h)
    | succ n ih =>
      intro x1 x2 x3 q h hK
      replace h : zf_View_countFigures_l0_b g0 (zf_View_countFigures_l0 g0 n) x1 x2 x3 = some q := h
      unfold zf_View_countFigures_l0_b at h
      refine zv_ild hB zd103_9 rfl rfl ?_
      refine zv_con hB zd103_10 rfl ?_
      refine zv_cge hB zd103_12 rfl (fun hc1 => ?_) (fun hc1 => ?_)
      · rw [if_neg (Int.not_lt.mpr hc1)] at h
        have hq := Option.some.inj h
        subst hq
        refine zv_wk hB (L' := [.inr 1000, .inl x1, .inr 1000, .inr 1000]) (F' := [.inl f0]) ⟨fun (h : zv_is (.inr 1000)) => (Nat.lt_irrefl 1000 h).elim, fun _ => rfl, fun (h : zv_is (.inr 1000)) => (Nat.lt_irrefl 1000 h).elim, fun (h : zv_is (.inr 1000)) => (Nat.lt_irrefl 1000 h).elim, trivial⟩ ⟨fun _ => rfl, trivial⟩ ?_
        exact hK
      · rw [if_pos hc1] at h
        refine zv_ild hB zd103_15 rfl rfl ?_
        refine zv_ild hB zd103_16 rfl rfl ?_
        refine zv_shrw hB zd103_17 ?_
        refine zv_con hB zd103_18 rfl ?_
        refine zv_andw hB zd103_19 ?_
        refine zv_zeq hB zd103_20 rfl (fun hc2 => ?_) (fun hc2 => ?_)
        · rw [if_pos hc2] at h
          refine zv_iincw hB zd103_38 rfl rfl ?_
          refine zv_goto hB zd103_41 rfl ?_
          exact ih _ _ _ q h hK
        · rw [if_neg hc2] at h
          refine zv_iincw hB zd103_23 rfl rfl ?_
          refine zv_ild hB zd103_26 rfl rfl ?_
          refine zv_ald hB zd103_27 rfl rfl rfl ?_
          refine zv_ild hB zd103_28 rfl rfl ?_
          refine zv_con hB zd103_29 rfl ?_
          refine zv_con hB zd103_30 rfl ?_
          obtain ⟨r3, hr3, h⟩ := zi_bind h
          refine zv_cv hB (zv_emq (va2 := [.inr 0, .inl x3, .inl (-1), .inl (-1)]) (F := [.inl f0]) (F' := [.inl f0]) (G := [g0]) (G' := [g0]) (ρ := [0, 1]) (φ := []) (ψ := [0]) [none] [some 0] zyw_View_reach zyw_View_countFigures zye_View_countFigures (by decide +kernel) (zt_View_reach hr3) trivial ⟨rfl, trivial⟩ rfl rfl rfl rfl rfl rfl rfl) zd103_31 zxt104 rfl (by decide) (by decide) rfl ?_
          refine zv_con hB zd103_34 rfl ?_
          refine zv_xorw hB zd103_35 ?_
          refine zv_andw hB zd103_36 ?_
          refine zv_ist hB zd103_37 rfl rfl rfl ?_
          refine zv_iincw hB zd103_38 rfl rfl ?_
          refine zv_goto hB zd103_41 rfl ?_
          exact ih _ _ _ q h hK
  unfold zf_View_countFigures at h
  refine zv_con hB zd103_0 rfl ?_
  refine zv_ist hB zd103_1 rfl rfl rfl ?_
  refine zv_ald hB zd103_2 rfl rfl rfl ?_
  refine zv_getf hB zd103_3 rfl rfl (fun _ _ => ?_)
  refine zv_ist hB zd103_6 rfl rfl rfl ?_
  refine zv_con hB zd103_7 rfl ?_
  refine zv_ist hB zd103_8 rfl rfl rfl ?_
  obtain ⟨q4, hq4, h⟩ := zi_bind h
  refine l0 _ _ _ _ q4 hq4 ?_
  show good 44 [.inr 1000, .inl q4, .inr 1000, .inr 1000] [] [.inl f0] [g0]
  refine zv_ild hB zd103_44 rfl rfl ?_
  have hw := Option.some.inj h
  subst hw
  exact hret _ _ _ _ _ zd103_45 (by trivial) ⟨rfl, rfl, rfl⟩
end
