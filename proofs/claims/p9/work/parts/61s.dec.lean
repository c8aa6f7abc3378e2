/-! Methods as functions, and that they do what these do. -/
/-! X_count (I)I -/
-- names: 0 StarTales('arg', 0), 1 Sky(0, 0, 0), 2 Sea(0, 0, 3), 3 Law(0, 0, 7), 4 Tale(0, 0, 10), 5 Tape(0, 0, 6), 6 (0, 12)(2, 2, 0), 7 (0, 6)(2, 2, 2)
-- fields: f0 = 1.hour_, f1 = 1.night_, f2 = 1.clouds_, f3 = 1.told_, f4 = 2.shipsTold_, f5 = 0.ruling_, f6 = 3.clauses_, f7 = 0.telling_, f8 = 4.lines_, f9 = 5.size_, f10 = 1.chance_, f11 = 1.sightColumns_, f12 = 1.sightRows_; arrays: g0 = 6, g1 = 7; out: [('ret', None)]
abbrev zy_X_count : zNL := (8, [(0, 0), (1, 1), (2, 2), (3, 4), (4, 6), (5, 3)], [(1, 1, 6, 0), (1, 1, 7, 1), (1, 1, 8, 2), (1, 1, 0, 3), (2, 2, 1, 4), (0, 0, 7, 5), (3, 4, 7, 6), (0, 0, 10, 7), (4, 6, 0, 8), (5, 3, 1, 9), (1, 1, 11, 10), (1, 1, 9, 11), (1, 1, 10, 12)], [(0, 0, 0, 1), (0, 0, 3, 2), (0, 0, 6, 5), (2, 2, 0, 6), (2, 2, 2, 7)], [(6, 0, 12, 0), (7, 0, 6, 1)])
theorem zyw_X_count : zv_wf zy_X_count = true := by decide +kernel
theorem zye_X_count : zv_ek2 zy_X_count = true := by decide +kernel
def zf_X_count (x1 : Int) (f0 : Int) (f1 : Int) (f2 : Int) (f3 : Int) (f4 : Int) (f6 : Int) (f8 : Int) (f9 : Int) (f10 : Int) (f11 : Int) (f12 : Int) (g0 : (Int → Int)) (g1 : (Int → Int)) : Option (Int) := if x1 = 0 then (some f0) else (if x1 = 1 then (some f1) else (if x1 = 2 then (some f2) else (if x1 = 3 then ((zf_Integer_bitCount f3).bind fun r5 => (some r5)) else (if x1 = 4 then (some f4) else (if x1 = 5 then (some f6) else (if x1 = 6 then (some f8) else (if x1 = 7 then (some f9) else (if x1 = 8 then (some f10) else (if x1 = 9 then (some (zi_w ((zi_w (100 * f11)) + f12))) else (if x1 = 10 then ((zf_Sea_countLand g0).bind fun r13 => (some r13)) else ((zf_X_isWithin x1 20 25).bind fun r14 => (if r14 = 0 then (some (-1)) else ((zf_Sea_hasShip (zi_w (x1 - 20)) f4).bind fun r16 => (if r16 = 0 then (some (-1)) else (cond (zi_ix (zi_w (x1 - 20)) 6) (some (g1 (zi_w (x1 - 20)))) none)))))))))))))))
theorem zd196_0 : decode zxm196.2.1 0 = .ok (.iload_n 1, 1) := by decide +kernel
theorem zd196_1 : decode zxm196.2.1 1 = .ok (.tableswitch 161 0 10 #[59, 67, 75, 83, 94, 102, 110, 118, 126, 134, 153], 59) := by decide +kernel
theorem zd196_60 : decode zxm196.2.1 60 = .ok (.aload_n 0, 1) := by decide +kernel
theorem zd196_61 : decode zxm196.2.1 61 = .ok (.getfield 10, 3) := by decide +kernel
theorem zd196_64 : decode zxm196.2.1 64 = .ok (.getfield 157, 3) := by decide +kernel
theorem zd196_67 : decode zxm196.2.1 67 = .ok (.ireturn, 1) := by decide +kernel
theorem zd196_68 : decode zxm196.2.1 68 = .ok (.aload_n 0, 1) := by decide +kernel
theorem zd196_69 : decode zxm196.2.1 69 = .ok (.getfield 10, 3) := by decide +kernel
theorem zd196_72 : decode zxm196.2.1 72 = .ok (.getfield 337, 3) := by decide +kernel
theorem zd196_75 : decode zxm196.2.1 75 = .ok (.ireturn, 1) := by decide +kernel
theorem zd196_76 : decode zxm196.2.1 76 = .ok (.aload_n 0, 1) := by decide +kernel
theorem zd196_77 : decode zxm196.2.1 77 = .ok (.getfield 10, 3) := by decide +kernel
theorem zd196_80 : decode zxm196.2.1 80 = .ok (.getfield 161, 3) := by decide +kernel
theorem zd196_83 : decode zxm196.2.1 83 = .ok (.ireturn, 1) := by decide +kernel
theorem zd196_84 : decode zxm196.2.1 84 = .ok (.aload_n 0, 1) := by decide +kernel
theorem zd196_85 : decode zxm196.2.1 85 = .ok (.getfield 10, 3) := by decide +kernel
theorem zd196_88 : decode zxm196.2.1 88 = .ok (.getfield 134, 3) := by decide +kernel
theorem zd196_91 : decode zxm196.2.1 91 = .ok (.invokestatic 235, 3) := by decide +kernel
theorem zd196_94 : decode zxm196.2.1 94 = .ok (.ireturn, 1) := by decide +kernel
theorem zd196_95 : decode zxm196.2.1 95 = .ok (.aload_n 0, 1) := by decide +kernel
theorem zd196_96 : decode zxm196.2.1 96 = .ok (.getfield 25, 3) := by decide +kernel
theorem zd196_99 : decode zxm196.2.1 99 = .ok (.getfield 184, 3) := by decide +kernel
theorem zd196_102 : decode zxm196.2.1 102 = .ok (.ireturn, 1) := by decide +kernel
theorem zd196_103 : decode zxm196.2.1 103 = .ok (.aload_n 0, 1) := by decide +kernel
theorem zd196_104 : decode zxm196.2.1 104 = .ok (.getfield 46, 3) := by decide +kernel
theorem zd196_107 : decode zxm196.2.1 107 = .ok (.getfield 420, 3) := by decide +kernel
theorem zd196_110 : decode zxm196.2.1 110 = .ok (.ireturn, 1) := by decide +kernel
theorem zd196_111 : decode zxm196.2.1 111 = .ok (.aload_n 0, 1) := by decide +kernel
theorem zd196_112 : decode zxm196.2.1 112 = .ok (.getfield 69, 3) := by decide +kernel
theorem zd196_115 : decode zxm196.2.1 115 = .ok (.getfield 253, 3) := by decide +kernel
theorem zd196_118 : decode zxm196.2.1 118 = .ok (.ireturn, 1) := by decide +kernel
theorem zd196_119 : decode zxm196.2.1 119 = .ok (.aload_n 0, 1) := by decide +kernel
theorem zd196_120 : decode zxm196.2.1 120 = .ok (.getfield 39, 3) := by decide +kernel
theorem zd196_123 : decode zxm196.2.1 123 = .ok (.getfield 190, 3) := by decide +kernel
theorem zd196_126 : decode zxm196.2.1 126 = .ok (.ireturn, 1) := by decide +kernel
theorem zd196_127 : decode zxm196.2.1 127 = .ok (.aload_n 0, 1) := by decide +kernel
theorem zd196_128 : decode zxm196.2.1 128 = .ok (.getfield 10, 3) := by decide +kernel
theorem zd196_131 : decode zxm196.2.1 131 = .ok (.getfield 411, 3) := by decide +kernel
theorem zd196_134 : decode zxm196.2.1 134 = .ok (.ireturn, 1) := by decide +kernel
theorem zd196_135 : decode zxm196.2.1 135 = .ok (.bipush 100, 2) := by decide +kernel
theorem zd196_137 : decode zxm196.2.1 137 = .ok (.aload_n 0, 1) := by decide +kernel
theorem zd196_138 : decode zxm196.2.1 138 = .ok (.getfield 10, 3) := by decide +kernel
theorem zd196_141 : decode zxm196.2.1 141 = .ok (.getfield 164, 3) := by decide +kernel
theorem zd196_144 : decode zxm196.2.1 144 = .ok (.imul, 1) := by decide +kernel
theorem zd196_145 : decode zxm196.2.1 145 = .ok (.aload_n 0, 1) := by decide +kernel
theorem zd196_146 : decode zxm196.2.1 146 = .ok (.getfield 10, 3) := by decide +kernel
theorem zd196_149 : decode zxm196.2.1 149 = .ok (.getfield 167, 3) := by decide +kernel
theorem zd196_152 : decode zxm196.2.1 152 = .ok (.iadd, 1) := by decide +kernel
theorem zd196_153 : decode zxm196.2.1 153 = .ok (.ireturn, 1) := by decide +kernel
theorem zd196_154 : decode zxm196.2.1 154 = .ok (.aload_n 0, 1) := by decide +kernel
theorem zd196_155 : decode zxm196.2.1 155 = .ok (.getfield 25, 3) := by decide +kernel
theorem zd196_158 : decode zxm196.2.1 158 = .ok (.invokevirtual 423, 3) := by decide +kernel
theorem zd196_161 : decode zxm196.2.1 161 = .ok (.ireturn, 1) := by decide +kernel
theorem zd196_162 : decode zxm196.2.1 162 = .ok (.iload_n 1, 1) := by decide +kernel
theorem zd196_163 : decode zxm196.2.1 163 = .ok (.bipush 20, 2) := by decide +kernel
theorem zd196_165 : decode zxm196.2.1 165 = .ok (.bipush 25, 2) := by decide +kernel
theorem zd196_167 : decode zxm196.2.1 167 = .ok (.invokestatic 126, 3) := by decide +kernel
theorem zd196_170 : decode zxm196.2.1 170 = .ok (.ifCond .eq 32, 3) := by decide +kernel
theorem zd196_173 : decode zxm196.2.1 173 = .ok (.aload_n 0, 1) := by decide +kernel
theorem zd196_174 : decode zxm196.2.1 174 = .ok (.getfield 25, 3) := by decide +kernel
theorem zd196_177 : decode zxm196.2.1 177 = .ok (.iload_n 1, 1) := by decide +kernel
theorem zd196_178 : decode zxm196.2.1 178 = .ok (.bipush 20, 2) := by decide +kernel
theorem zd196_180 : decode zxm196.2.1 180 = .ok (.isub, 1) := by decide +kernel
theorem zd196_181 : decode zxm196.2.1 181 = .ok (.invokevirtual 323, 3) := by decide +kernel
theorem zd196_184 : decode zxm196.2.1 184 = .ok (.ifCond .eq 18, 3) := by decide +kernel
theorem zd196_187 : decode zxm196.2.1 187 = .ok (.aload_n 0, 1) := by decide +kernel
theorem zd196_188 : decode zxm196.2.1 188 = .ok (.getfield 25, 3) := by decide +kernel
theorem zd196_191 : decode zxm196.2.1 191 = .ok (.getfield 187, 3) := by decide +kernel
theorem zd196_194 : decode zxm196.2.1 194 = .ok (.iload_n 1, 1) := by decide +kernel
theorem zd196_195 : decode zxm196.2.1 195 = .ok (.bipush 20, 2) := by decide +kernel
theorem zd196_197 : decode zxm196.2.1 197 = .ok (.isub, 1) := by decide +kernel
theorem zd196_198 : decode zxm196.2.1 198 = .ok (.iaload, 1) := by decide +kernel
theorem zd196_199 : decode zxm196.2.1 199 = .ok (.goto 4, 3) := by decide +kernel
theorem zd196_202 : decode zxm196.2.1 202 = .ok (.iconst (-1), 1) := by decide +kernel
theorem zd196_203 : decode zxm196.2.1 203 = .ok (.ireturn, 1) := by decide +kernel
theorem zt_X_count {x1 : Int} {f0 : Int} {f1 : Int} {f2 : Int} {f3 : Int} {f4 : Int} {f6 : Int} {f8 : Int} {f9 : Int} {f10 : Int} {f11 : Int} {f12 : Int} {g0 : (Int → Int)} {g1 : (Int → Int)} {o : Int} (h : zf_X_count x1 f0 f1 f2 f3 f4 f6 f8 f9 f10 f11 f12 g0 g1 = some o) : zv_Fn z_TB z_cl z_KX zy_X_count zxm196 (2, 120) [.inr 0, .inl x1] [.inl f0, .inl f1, .inl f2, .inl f3, .inl f4, .inr 3, .inl f6, .inr 4, .inl f8, .inl f9, .inl f10, .inl f11, .inl f12] [g0, g1] (some o) [.inl f0, .inl f1, .inl f2, .inl f3, .inl f4, .inr 3, .inl f6, .inr 4, .inl f8, .inl f9, .inl f10, .inl f11, .inl f12] [g0, g1] := zv_meth (K := (z_KF0, z_KC0, z_KL0, z_KT0, [], [], [], none)) (FT := z_FT) (MT := z_MT) (n := 2) zxp196 (z_ks0 _ (fun _ h => List.mem_cons_of_mem _ h) _ _ _ _ (fun j r h _ => by cases h)) (fun _ _ => zs_KX_p) zyw_X_count (fun va F G h => by obtain ⟨rfl, _⟩ := h; rfl) (fun va F G h => by obtain ⟨rfl, _⟩ := h; rfl) rfl fun good va F G hB hret hvret hP => by
  obtain ⟨rfl, rfl, rfl⟩ := hP
  unfold zf_X_count at h
  refine zv_ild hB zd196_0 rfl rfl ?_
  refine zv_tsw hB zd196_1 rfl ?_
  refine ⟨fun hc1 => ⟨_, rfl, ?_⟩, fun hc1 => ?_⟩
  · replace hc1 : x1 = 0 := hc1
    rw [if_pos hc1] at h
    refine zv_ald hB zd196_60 rfl rfl rfl ?_
    refine zv_getr hB zd196_61 rfl ?_
    refine zv_getf hB zd196_64 rfl rfl (fun _ _ => ?_)
    have hw := Option.some.inj h
    subst hw
    exact hret _ _ _ _ _ zd196_67 (by trivial) ⟨rfl, rfl, rfl⟩
  replace hc1 : x1 ≠ 0 := hc1
  rw [if_neg hc1] at h
  refine ⟨fun hc2 => ⟨_, rfl, ?_⟩, fun hc2 => ?_⟩
  · replace hc2 : x1 = 1 := hc2
    rw [if_pos hc2] at h
    refine zv_ald hB zd196_68 rfl rfl rfl ?_
    refine zv_getr hB zd196_69 rfl ?_
    refine zv_getf hB zd196_72 rfl rfl (fun _ _ => ?_)
    have hw := Option.some.inj h
    subst hw
    exact hret _ _ _ _ _ zd196_75 (by trivial) ⟨rfl, rfl, rfl⟩
  replace hc2 : x1 ≠ 1 := hc2
  rw [if_neg hc2] at h
  refine ⟨fun hc3 => ⟨_, rfl, ?_⟩, fun hc3 => ?_⟩
  · replace hc3 : x1 = 2 := hc3
    rw [if_pos hc3] at h
    refine zv_ald hB zd196_76 rfl rfl rfl ?_
    refine zv_getr hB zd196_77 rfl ?_
    refine zv_getf hB zd196_80 rfl rfl (fun _ _ => ?_)
    have hw := Option.some.inj h
    subst hw
    exact hret _ _ _ _ _ zd196_83 (by trivial) ⟨rfl, rfl, rfl⟩
  replace hc3 : x1 ≠ 2 := hc3
  rw [if_neg hc3] at h
  refine ⟨fun hc4 => ⟨_, rfl, ?_⟩, fun hc4 => ?_⟩
  · replace hc4 : x1 = 3 := hc4
    rw [if_pos hc4] at h
    refine zv_ald hB zd196_84 rfl rfl rfl ?_
    refine zv_getr hB zd196_85 rfl ?_
    refine zv_getf hB zd196_88 rfl rfl (fun _ _ => ?_)
    obtain ⟨r5, hr5, h⟩ := zi_bind h
    refine zv_cs hB (zv_emq (va2 := [.inl f3]) (F := [.inl f0, .inl f1, .inl f2, .inl f3, .inl f4, .inr 3, .inl f6, .inr 4, .inl f8, .inl f9, .inl f10, .inl f11, .inl f12]) (F' := [.inl f0, .inl f1, .inl f2, .inl f3, .inl f4, .inr 3, .inl f6, .inr 4, .inl f8, .inl f9, .inl f10, .inl f11, .inl f12]) (G := [g0, g1]) (G' := [g0, g1]) (ρ := []) (φ := []) (ψ := []) [none, none, none, none, none, none, none, none, none, none, none, none, none] [none, none] zyw_Integer_bitCount zyw_X_count zye_X_count (by decide +kernel) (zt_Integer_bitCount hr5) trivial trivial rfl rfl rfl rfl rfl rfl rfl) zd196_91 zxt102 rfl (by decide) (by decide) rfl ?_
    have hw := Option.some.inj h
    subst hw
    exact hret _ _ _ _ _ zd196_94 (by trivial) ⟨rfl, rfl, rfl⟩
  replace hc4 : x1 ≠ 3 := hc4
  rw [if_neg hc4] at h
  refine ⟨fun hc6 => ⟨_, rfl, ?_⟩, fun hc6 => ?_⟩
  · replace hc6 : x1 = 4 := hc6
    rw [if_pos hc6] at h
    refine zv_ald hB zd196_95 rfl rfl rfl ?_
    refine zv_getr hB zd196_96 rfl ?_
    refine zv_getf hB zd196_99 rfl rfl (fun _ _ => ?_)
    have hw := Option.some.inj h
    subst hw
    exact hret _ _ _ _ _ zd196_102 (by trivial) ⟨rfl, rfl, rfl⟩
  replace hc6 : x1 ≠ 4 := hc6
  rw [if_neg hc6] at h
  refine ⟨fun hc7 => ⟨_, rfl, ?_⟩, fun hc7 => ?_⟩
  · replace hc7 : x1 = 5 := hc7
    rw [if_pos hc7] at h
    refine zv_ald hB zd196_103 rfl rfl rfl ?_
    refine zv_getq hB zd196_104 rfl rfl rfl ?_
    refine zv_getf hB zd196_107 rfl rfl (fun _ _ => ?_)
    have hw := Option.some.inj h
    subst hw
    exact hret _ _ _ _ _ zd196_110 (by trivial) ⟨rfl, rfl, rfl⟩
  replace hc7 : x1 ≠ 5 := hc7
  rw [if_neg hc7] at h
  refine ⟨fun hc8 => ⟨_, rfl, ?_⟩, fun hc8 => ?_⟩
  · replace hc8 : x1 = 6 := hc8
    rw [if_pos hc8] at h
    refine zv_ald hB zd196_111 rfl rfl rfl ?_
    refine zv_getq hB zd196_112 rfl rfl rfl ?_
    refine zv_getf hB zd196_115 rfl rfl (fun _ _ => ?_)
    have hw := Option.some.inj h
    subst hw
    exact hret _ _ _ _ _ zd196_118 (by trivial) ⟨rfl, rfl, rfl⟩
  replace hc8 : x1 ≠ 6 := hc8
  rw [if_neg hc8] at h
  refine ⟨fun hc9 => ⟨_, rfl, ?_⟩, fun hc9 => ?_⟩
  · replace hc9 : x1 = 7 := hc9
    rw [if_pos hc9] at h
    refine zv_ald hB zd196_119 rfl rfl rfl ?_
    refine zv_getr hB zd196_120 rfl ?_
    refine zv_getf hB zd196_123 rfl rfl (fun _ _ => ?_)
    have hw := Option.some.inj h
    subst hw
    exact hret _ _ _ _ _ zd196_126 (by trivial) ⟨rfl, rfl, rfl⟩
  replace hc9 : x1 ≠ 7 := hc9
  rw [if_neg hc9] at h
  refine ⟨fun hc10 => ⟨_, rfl, ?_⟩, fun hc10 => ?_⟩
  · replace hc10 : x1 = 8 := hc10
    rw [if_pos hc10] at h
    refine zv_ald hB zd196_127 rfl rfl rfl ?_
    refine zv_getr hB zd196_128 rfl ?_
    refine zv_getf hB zd196_131 rfl rfl (fun _ _ => ?_)
    have hw := Option.some.inj h
    subst hw
    exact hret _ _ _ _ _ zd196_134 (by trivial) ⟨rfl, rfl, rfl⟩
  replace hc10 : x1 ≠ 8 := hc10
  rw [if_neg hc10] at h
  refine ⟨fun hc11 => ⟨_, rfl, ?_⟩, fun hc11 => ?_⟩
  · replace hc11 : x1 = 9 := hc11
    rw [if_pos hc11] at h
    refine zv_con hB zd196_135 rfl ?_
    refine zv_ald hB zd196_137 rfl rfl rfl ?_
    refine zv_getr hB zd196_138 rfl ?_
    refine zv_getf hB zd196_141 rfl rfl (fun _ _ => ?_)
    refine zv_mulw hB zd196_144 ?_
    refine zv_ald hB zd196_145 rfl rfl rfl ?_
    refine zv_getr hB zd196_146 rfl ?_
    refine zv_getf hB zd196_149 rfl rfl (fun _ _ => ?_)
    refine zv_addw hB zd196_152 ?_
    have hw := Option.some.inj h
    subst hw
    exact hret _ _ _ _ _ zd196_153 (by trivial) ⟨rfl, rfl, rfl⟩
  replace hc11 : x1 ≠ 9 := hc11
  rw [if_neg hc11] at h
  refine ⟨fun hc12 => ⟨_, rfl, ?_⟩, fun hc12 => ?_⟩
  · replace hc12 : x1 = 10 := hc12
    rw [if_pos hc12] at h
    refine zv_ald hB zd196_154 rfl rfl rfl ?_
    refine zv_getr hB zd196_155 rfl ?_
    obtain ⟨r13, hr13, h⟩ := zi_bind h
    refine zv_cv hB (zv_emq (va2 := [.inr 2]) (F := [.inl f0, .inl f1, .inl f2, .inl f3, .inl f4, .inr 3, .inl f6, .inr 4, .inl f8, .inl f9, .inl f10, .inl f11, .inl f12]) (F' := [.inl f0, .inl f1, .inl f2, .inl f3, .inl f4, .inr 3, .inl f6, .inr 4, .inl f8, .inl f9, .inl f10, .inl f11, .inl f12]) (G := [g0, g1]) (G' := [g0, g1]) (ρ := [2, 6]) (φ := []) (ψ := [0]) [none, none, none, none, none, none, none, none, none, none, none, none, none] [some 0, none] zyw_Sea_countLand zyw_X_count zye_X_count (by decide +kernel) (zt_Sea_countLand hr13) trivial ⟨rfl, trivial⟩ rfl rfl rfl rfl rfl rfl rfl) zd196_158 zxt197 rfl (by decide) (by decide) rfl ?_
    have hw := Option.some.inj h
    subst hw
    exact hret _ _ _ _ _ zd196_161 (by trivial) ⟨rfl, rfl, rfl⟩
  replace hc12 : x1 ≠ 10 := hc12
  rw [if_neg hc12] at h
  refine ⟨_, rfl, ?_⟩
  refine zv_ild hB zd196_162 rfl rfl ?_
  refine zv_con hB zd196_163 rfl ?_
  refine zv_con hB zd196_165 rfl ?_
  obtain ⟨r14, hr14, h⟩ := zi_bind h
  refine zv_cs hB (zv_emq (va2 := [.inl x1, .inl 20, .inl 25]) (F := [.inl f0, .inl f1, .inl f2, .inl f3, .inl f4, .inr 3, .inl f6, .inr 4, .inl f8, .inl f9, .inl f10, .inl f11, .inl f12]) (F' := [.inl f0, .inl f1, .inl f2, .inl f3, .inl f4, .inr 3, .inl f6, .inr 4, .inl f8, .inl f9, .inl f10, .inl f11, .inl f12]) (G := [g0, g1]) (G' := [g0, g1]) (ρ := []) (φ := []) (ψ := []) [none, none, none, none, none, none, none, none, none, none, none, none, none] [none, none] zyw_X_isWithin zyw_X_count zye_X_count (by decide +kernel) (zt_X_isWithin hr14) trivial trivial rfl rfl rfl rfl rfl rfl rfl) zd196_167 zxt15 rfl (by decide) (by decide) rfl ?_
  refine zv_zeq hB zd196_170 rfl (fun hc15 => ?_) (fun hc15 => ?_)
  · rw [if_pos hc15] at h
    refine zv_con hB zd196_202 rfl ?_
    have hw := Option.some.inj h
    subst hw
    exact hret _ _ _ _ _ zd196_203 (by trivial) ⟨rfl, rfl, rfl⟩
  · rw [if_neg hc15] at h
    refine zv_ald hB zd196_173 rfl rfl rfl ?_
    refine zv_getr hB zd196_174 rfl ?_
    refine zv_ild hB zd196_177 rfl rfl ?_
    refine zv_con hB zd196_178 rfl ?_
    refine zv_subw hB zd196_180 ?_
    obtain ⟨r16, hr16, h⟩ := zi_bind h
    refine zv_cv hB (zv_emq (va2 := [.inr 2, .inl (zi_w (x1 - 20))]) (F := [.inl f0, .inl f1, .inl f2, .inl f3, .inl f4, .inr 3, .inl f6, .inr 4, .inl f8, .inl f9, .inl f10, .inl f11, .inl f12]) (F' := [.inl f0, .inl f1, .inl f2, .inl f3, .inl f4, .inr 3, .inl f6, .inr 4, .inl f8, .inl f9, .inl f10, .inl f11, .inl f12]) (G := [g0, g1]) (G' := [g0, g1]) (ρ := [2]) (φ := [4]) (ψ := []) [none, none, none, none, some 0, none, none, none, none, none, none, none, none] [none, none] zyw_Sea_hasShip zyw_X_count zye_X_count (by decide +kernel) (zt_Sea_hasShip hr16) ⟨⟨_, rfl, fun _ => rfl⟩, trivial⟩ trivial rfl rfl rfl rfl rfl rfl rfl) zd196_181 zxt26 rfl (by decide) (by decide) rfl ?_
    refine zv_zeq hB zd196_184 rfl (fun hc17 => ?_) (fun hc17 => ?_)
    · rw [if_pos hc17] at h
      refine zv_con hB zd196_202 rfl ?_
      have hw := Option.some.inj h
      subst hw
      exact hret _ _ _ _ _ zd196_203 (by trivial) ⟨rfl, rfl, rfl⟩
    · rw [if_neg hc17] at h
      refine zv_ald hB zd196_187 rfl rfl rfl ?_
      refine zv_getr hB zd196_188 rfl ?_
      refine zv_getr hB zd196_191 rfl ?_
      refine zv_ild hB zd196_194 rfl rfl ?_
      refine zv_con hB zd196_195 rfl ?_
      refine zv_subw hB zd196_197 ?_
      obtain ⟨c18, h⟩ := zi_if h
      refine zv_iald hB zd196_198 rfl rfl (zi_ix_ok c18).1 (zi_ix_ok c18).2 (fun _ _ => ?_)
      refine zv_goto hB zd196_199 rfl ?_
      have hw := Option.some.inj h
      subst hw
      exact hret _ _ _ _ _ zd196_203 (by trivial) ⟨rfl, rfl, rfl⟩
/-! M_in (III)Z -/
-- names: 
-- fields: ; arrays: ; out: [('ret', None)]
abbrev zy_M_in : zNL := (0, [], [], [], [])
theorem zyw_M_in : zv_wf zy_M_in = true := by decide +kernel
theorem zye_M_in : zv_ek2 zy_M_in = true := by decide +kernel
def zf_M_in (x0 : Int) (x1 : Int) (x2 : Int) : Option (Int) := if x0 < x1 then (some 0) else (if x2 < x0 then (some 0) else (some 1))
theorem zd200_0 : decode zxm200.2.1 0 = .ok (.iload_n 0, 1) := by decide +kernel
theorem zd200_1 : decode zxm200.2.1 1 = .ok (.iload_n 1, 1) := by decide +kernel
theorem zd200_2 : decode zxm200.2.1 2 = .ok (.if_icmp .lt 12, 3) := by decide +kernel
theorem zd200_5 : decode zxm200.2.1 5 = .ok (.iload_n 0, 1) := by decide +kernel
theorem zd200_6 : decode zxm200.2.1 6 = .ok (.iload_n 2, 1) := by decide +kernel
theorem zd200_7 : decode zxm200.2.1 7 = .ok (.if_icmp .gt 7, 3) := by decide +kernel
theorem zd200_10 : decode zxm200.2.1 10 = .ok (.iconst 1, 1) := by decide +kernel
theorem zd200_11 : decode zxm200.2.1 11 = .ok (.goto 4, 3) := by decide +kernel
theorem zd200_14 : decode zxm200.2.1 14 = .ok (.iconst 0, 1) := by decide +kernel
theorem zd200_15 : decode zxm200.2.1 15 = .ok (.ireturn, 1) := by decide +kernel
theorem zt_M_in {x0 : Int} {x1 : Int} {x2 : Int} {o : Int} (h : zf_M_in x0 x1 x2 = some o) : zv_Fn z_TB z_cl z_KX zy_M_in zxm200 (0, 0) [.inl x0, .inl x1, .inl x2] [] [] (some o) [] [] := zv_meth (K := (z_KF13, z_KC13, z_KL13, z_KT13, [], [], [], none)) (FT := z_FT) (MT := z_MT) (n := 3) zxp200 (z_ks13 _ (fun _ h => List.mem_cons_of_mem _ h) _ _ _ _ (fun j r h _ => by cases h)) (fun _ _ => zs_KX_p) zyw_M_in (fun va F G h => by obtain ⟨rfl, _⟩ := h; rfl) (fun va F G h => by obtain ⟨rfl, _⟩ := h; rfl) rfl fun good va F G hB hret hvret hP => by
  obtain ⟨rfl, rfl, rfl⟩ := hP
  unfold zf_M_in at h
  refine zv_ild hB zd200_0 rfl rfl ?_
  refine zv_ild hB zd200_1 rfl rfl ?_
  refine zv_clt hB zd200_2 rfl (fun hc1 => ?_) (fun hc1 => ?_)
  · rw [if_pos hc1] at h
    refine zv_con hB zd200_14 rfl ?_
    have hw := Option.some.inj h
    subst hw
    exact hret _ _ _ _ _ zd200_15 (by constructor <;> decide) ⟨rfl, rfl, rfl⟩
  · rw [if_neg (Int.not_lt.mpr hc1)] at h
    refine zv_ild hB zd200_5 rfl rfl ?_
    refine zv_ild hB zd200_6 rfl rfl ?_
    refine zv_cgt hB zd200_7 rfl (fun hc2 => ?_) (fun hc2 => ?_)
    · rw [if_pos hc2] at h
      refine zv_con hB zd200_14 rfl ?_
      have hw := Option.some.inj h
      subst hw
      exact hret _ _ _ _ _ zd200_15 (by constructor <;> decide) ⟨rfl, rfl, rfl⟩
    · rw [if_neg (Int.not_lt.mpr hc2)] at h
      refine zv_con hB zd200_10 rfl ?_
      refine zv_goto hB zd200_11 rfl ?_
      have hw := Option.some.inj h
      subst hw
      exact hret _ _ _ _ _ zd200_15 (by constructor <;> decide) ⟨rfl, rfl, rfl⟩
/-! M_isPlace (II)Z -/
-- names: 
-- fields: ; arrays: ; out: [('ret', None)]
abbrev zy_M_isPlace : zNL := (0, [], [], [], [])
theorem zyw_M_isPlace : zv_wf zy_M_isPlace = true := by decide +kernel
theorem zye_M_isPlace : zv_ek2 zy_M_isPlace = true := by decide +kernel
def zf_M_isPlace (x0 : Int) (x1 : Int) : Option (Int) := if x0 < 0 then (some 0) else (if x0 < 24 then (if x1 < 0 then (some 0) else (if x1 < 12 then (some 1) else (some 0))) else (some 0))
theorem zd201_0 : decode zxm201.2.1 0 = .ok (.iload_n 0, 1) := by decide +kernel
theorem zd201_1 : decode zxm201.2.1 1 = .ok (.ifCond .lt 23, 3) := by decide +kernel
theorem zd201_4 : decode zxm201.2.1 4 = .ok (.iload_n 0, 1) := by decide +kernel
theorem zd201_5 : decode zxm201.2.1 5 = .ok (.bipush 24, 2) := by decide +kernel
theorem zd201_7 : decode zxm201.2.1 7 = .ok (.if_icmp .ge 17, 3) := by decide +kernel
theorem zd201_10 : decode zxm201.2.1 10 = .ok (.iload_n 1, 1) := by decide +kernel
theorem zd201_11 : decode zxm201.2.1 11 = .ok (.ifCond .lt 13, 3) := by decide +kernel
theorem zd201_14 : decode zxm201.2.1 14 = .ok (.iload_n 1, 1) := by decide +kernel
theorem zd201_15 : decode zxm201.2.1 15 = .ok (.bipush 12, 2) := by decide +kernel
theorem zd201_17 : decode zxm201.2.1 17 = .ok (.if_icmp .ge 7, 3) := by decide +kernel
theorem zd201_20 : decode zxm201.2.1 20 = .ok (.iconst 1, 1) := by decide +kernel
theorem zd201_21 : decode zxm201.2.1 21 = .ok (.goto 4, 3) := by decide +kernel
theorem zd201_24 : decode zxm201.2.1 24 = .ok (.iconst 0, 1) := by decide +kernel
theorem zd201_25 : decode zxm201.2.1 25 = .ok (.ireturn, 1) := by decide +kernel
theorem zt_M_isPlace {x0 : Int} {x1 : Int} {o : Int} (h : zf_M_isPlace x0 x1 = some o) : zv_Fn z_TB z_cl z_KX zy_M_isPlace zxm201 (0, 0) [.inl x0, .inl x1] [] [] (some o) [] [] := zv_meth (K := (z_KF13, z_KC13, z_KL13, z_KT13, [], [], [], none)) (FT := z_FT) (MT := z_MT) (n := 2) zxp201 (z_ks13 _ (fun _ h => List.mem_cons_of_mem _ h) _ _ _ _ (fun j r h _ => by cases h)) (fun _ _ => zs_KX_p) zyw_M_isPlace (fun va F G h => by obtain ⟨rfl, _⟩ := h; rfl) (fun va F G h => by obtain ⟨rfl, _⟩ := h; rfl) rfl fun good va F G hB hret hvret hP => by
  obtain ⟨rfl, rfl, rfl⟩ := hP
  unfold zf_M_isPlace at h
  refine zv_ild hB zd201_0 rfl rfl ?_
  refine zv_zlt hB zd201_1 rfl (fun hc1 => ?_) (fun hc1 => ?_)
  · rw [if_pos hc1] at h
    refine zv_con hB zd201_24 rfl ?_
    have hw := Option.some.inj h
    subst hw
    exact hret _ _ _ _ _ zd201_25 (by constructor <;> decide) ⟨rfl, rfl, rfl⟩
  · rw [if_neg (Int.not_lt.mpr hc1)] at h
    refine zv_ild hB zd201_4 rfl rfl ?_
    refine zv_con hB zd201_5 rfl ?_
    refine zv_cge hB zd201_7 rfl (fun hc2 => ?_) (fun hc2 => ?_)
    · rw [if_neg (Int.not_lt.mpr hc2)] at h
      refine zv_con hB zd201_24 rfl ?_
      have hw := Option.some.inj h
      subst hw
      exact hret _ _ _ _ _ zd201_25 (by constructor <;> decide) ⟨rfl, rfl, rfl⟩
    · rw [if_pos hc2] at h
      refine zv_ild hB zd201_10 rfl rfl ?_
      refine zv_zlt hB zd201_11 rfl (fun hc3 => ?_) (fun hc3 => ?_)
      · rw [if_pos hc3] at h
        refine zv_con hB zd201_24 rfl ?_
        have hw := Option.some.inj h
        subst hw
        exact hret _ _ _ _ _ zd201_25 (by constructor <;> decide) ⟨rfl, rfl, rfl⟩
      · rw [if_neg (Int.not_lt.mpr hc3)] at h
        refine zv_ild hB zd201_14 rfl rfl ?_
        refine zv_con hB zd201_15 rfl ?_
        refine zv_cge hB zd201_17 rfl (fun hc4 => ?_) (fun hc4 => ?_)
        · rw [if_neg (Int.not_lt.mpr hc4)] at h
          refine zv_con hB zd201_24 rfl ?_
          have hw := Option.some.inj h
          subst hw
          exact hret _ _ _ _ _ zd201_25 (by constructor <;> decide) ⟨rfl, rfl, rfl⟩
        · rw [if_pos hc4] at h
          refine zv_con hB zd201_20 rfl ?_
          refine zv_goto hB zd201_21 rfl ?_
          have hw := Option.some.inj h
          subst hw
          exact hret _ _ _ _ _ zd201_25 (by constructor <;> decide) ⟨rfl, rfl, rfl⟩
/-! M_star (IIII)Z -/
-- names: 0 StarTalesModel('arg', 0), 1 (0, 422)(0, 12, 0)
-- fields: ; arrays: g0 = 1; out: [('ret', None), ('g', 0)]
abbrev zy_M_star : zNL := (2, [(0, 12)], [], [(0, 12, 0, 1)], [(1, 0, 422, 0)])
theorem zyw_M_star : zv_wf zy_M_star = true := by decide +kernel
theorem zye_M_star : zv_ek2 zy_M_star = true := by decide +kernel
def zf_M_star (x1 : Int) (x2 : Int) (x3 : Int) (x4 : Int) (g0 : (Int → Int)) : Option (Int × (Int → Int)) := (zf_M_in x1 0 23).bind fun r1 => (if r1 = 0 then (some (0, g0)) else ((zf_M_isPlace x2 x3).bind fun r3 => (if r3 = 0 then (some (0, g0)) else ((zf_M_in x4 1 9).bind fun r5 => (if r5 = 0 then (some (0, g0)) else (cond (zi_ix (zi_w (0 + x1)) 422) (cond (zi_ix (zi_w (24 + x1)) 422) (cond (zi_ix (zi_w (48 + x1)) 422) (cond (zi_ix (zi_w (72 + x1)) 422) (cond (zi_ix (zi_w (96 + x1)) 422) (some (1, (zv_up (zv_up (zv_up (zv_up (zv_up (zv_up g0 126 (zi_or (g0 126) (zi_shl 1 x1))) (zi_w (0 + x1)) x2) (zi_w (24 + x1)) x3) (zi_w (48 + x1)) x4) (zi_w (72 + x1)) 0) (zi_w (96 + x1)) 0))) none) none) none) none) none))))))
theorem zd199_0 : decode zxm199.2.1 0 = .ok (.iload_n 1, 1) := by decide +kernel
theorem zd199_1 : decode zxm199.2.1 1 = .ok (.iconst 0, 1) := by decide +kernel
theorem zd199_2 : decode zxm199.2.1 2 = .ok (.bipush 23, 2) := by decide +kernel
theorem zd199_4 : decode zxm199.2.1 4 = .ok (.invokestatic 150, 3) := by decide +kernel
theorem zd199_7 : decode zxm199.2.1 7 = .ok (.ifCond .eq 22, 3) := by decide +kernel
theorem zd199_10 : decode zxm199.2.1 10 = .ok (.iload_n 2, 1) := by decide +kernel
theorem zd199_11 : decode zxm199.2.1 11 = .ok (.iload_n 3, 1) := by decide +kernel
theorem zd199_12 : decode zxm199.2.1 12 = .ok (.invokestatic 154, 3) := by decide +kernel
theorem zd199_15 : decode zxm199.2.1 15 = .ok (.ifCond .eq 14, 3) := by decide +kernel
theorem zd199_18 : decode zxm199.2.1 18 = .ok (.iload 4, 2) := by decide +kernel
theorem zd199_20 : decode zxm199.2.1 20 = .ok (.iconst 1, 1) := by decide +kernel
theorem zd199_21 : decode zxm199.2.1 21 = .ok (.bipush 9, 2) := by decide +kernel
theorem zd199_23 : decode zxm199.2.1 23 = .ok (.invokestatic 150, 3) := by decide +kernel
theorem zd199_26 : decode zxm199.2.1 26 = .ok (.ifCond .ne 5, 3) := by decide +kernel
theorem zd199_29 : decode zxm199.2.1 29 = .ok (.iconst 0, 1) := by decide +kernel
theorem zd199_30 : decode zxm199.2.1 30 = .ok (.ireturn, 1) := by decide +kernel
theorem zd199_31 : decode zxm199.2.1 31 = .ok (.aload_n 0, 1) := by decide +kernel
theorem zd199_32 : decode zxm199.2.1 32 = .ok (.getfield 7, 3) := by decide +kernel
theorem zd199_35 : decode zxm199.2.1 35 = .ok (.bipush 126, 2) := by decide +kernel
theorem zd199_37 : decode zxm199.2.1 37 = .ok (.aload_n 0, 1) := by decide +kernel
theorem zd199_38 : decode zxm199.2.1 38 = .ok (.getfield 7, 3) := by decide +kernel
theorem zd199_41 : decode zxm199.2.1 41 = .ok (.bipush 126, 2) := by decide +kernel
theorem zd199_43 : decode zxm199.2.1 43 = .ok (.iaload, 1) := by decide +kernel
theorem zd199_44 : decode zxm199.2.1 44 = .ok (.iconst 1, 1) := by decide +kernel
theorem zd199_45 : decode zxm199.2.1 45 = .ok (.iload_n 1, 1) := by decide +kernel
theorem zd199_46 : decode zxm199.2.1 46 = .ok (.ishl, 1) := by decide +kernel
theorem zd199_47 : decode zxm199.2.1 47 = .ok (.ior, 1) := by decide +kernel
theorem zd199_48 : decode zxm199.2.1 48 = .ok (.iastore, 1) := by decide +kernel
theorem zd199_49 : decode zxm199.2.1 49 = .ok (.aload_n 0, 1) := by decide +kernel
theorem zd199_50 : decode zxm199.2.1 50 = .ok (.getfield 7, 3) := by decide +kernel
theorem zd199_53 : decode zxm199.2.1 53 = .ok (.iconst 0, 1) := by decide +kernel
theorem zd199_54 : decode zxm199.2.1 54 = .ok (.iload_n 1, 1) := by decide +kernel
theorem zd199_55 : decode zxm199.2.1 55 = .ok (.iadd, 1) := by decide +kernel
theorem zd199_56 : decode zxm199.2.1 56 = .ok (.iload_n 2, 1) := by decide +kernel
theorem zd199_57 : decode zxm199.2.1 57 = .ok (.iastore, 1) := by decide +kernel
theorem zd199_58 : decode zxm199.2.1 58 = .ok (.aload_n 0, 1) := by decide +kernel
theorem zd199_59 : decode zxm199.2.1 59 = .ok (.getfield 7, 3) := by decide +kernel
theorem zd199_62 : decode zxm199.2.1 62 = .ok (.bipush 24, 2) := by decide +kernel
theorem zd199_64 : decode zxm199.2.1 64 = .ok (.iload_n 1, 1) := by decide +kernel
theorem zd199_65 : decode zxm199.2.1 65 = .ok (.iadd, 1) := by decide +kernel
theorem zd199_66 : decode zxm199.2.1 66 = .ok (.iload_n 3, 1) := by decide +kernel
theorem zd199_67 : decode zxm199.2.1 67 = .ok (.iastore, 1) := by decide +kernel
theorem zd199_68 : decode zxm199.2.1 68 = .ok (.aload_n 0, 1) := by decide +kernel
theorem zd199_69 : decode zxm199.2.1 69 = .ok (.getfield 7, 3) := by decide +kernel
theorem zd199_72 : decode zxm199.2.1 72 = .ok (.bipush 48, 2) := by decide +kernel
theorem zd199_74 : decode zxm199.2.1 74 = .ok (.iload_n 1, 1) := by decide +kernel
theorem zd199_75 : decode zxm199.2.1 75 = .ok (.iadd, 1) := by decide +kernel
theorem zd199_76 : decode zxm199.2.1 76 = .ok (.iload 4, 2) := by decide +kernel
theorem zd199_78 : decode zxm199.2.1 78 = .ok (.iastore, 1) := by decide +kernel
theorem zd199_79 : decode zxm199.2.1 79 = .ok (.aload_n 0, 1) := by decide +kernel
theorem zd199_80 : decode zxm199.2.1 80 = .ok (.getfield 7, 3) := by decide +kernel
theorem zd199_83 : decode zxm199.2.1 83 = .ok (.bipush 72, 2) := by decide +kernel
theorem zd199_85 : decode zxm199.2.1 85 = .ok (.iload_n 1, 1) := by decide +kernel
theorem zd199_86 : decode zxm199.2.1 86 = .ok (.iadd, 1) := by decide +kernel
theorem zd199_87 : decode zxm199.2.1 87 = .ok (.iconst 0, 1) := by decide +kernel
theorem zd199_88 : decode zxm199.2.1 88 = .ok (.iastore, 1) := by decide +kernel
theorem zd199_89 : decode zxm199.2.1 89 = .ok (.aload_n 0, 1) := by decide +kernel
theorem zd199_90 : decode zxm199.2.1 90 = .ok (.getfield 7, 3) := by decide +kernel
theorem zd199_93 : decode zxm199.2.1 93 = .ok (.bipush 96, 2) := by decide +kernel
theorem zd199_95 : decode zxm199.2.1 95 = .ok (.iload_n 1, 1) := by decide +kernel
theorem zd199_96 : decode zxm199.2.1 96 = .ok (.iadd, 1) := by decide +kernel
theorem zd199_97 : decode zxm199.2.1 97 = .ok (.iconst 0, 1) := by decide +kernel
theorem zd199_98 : decode zxm199.2.1 98 = .ok (.iastore, 1) := by decide +kernel
theorem zd199_99 : decode zxm199.2.1 99 = .ok (.iconst 1, 1) := by decide +kernel
theorem zd199_100 : decode zxm199.2.1 100 = .ok (.ireturn, 1) := by decide +kernel
theorem zt_M_star {x1 : Int} {x2 : Int} {x3 : Int} {x4 : Int} {g0 : (Int → Int)} {o : Int × (Int → Int)} (h : zf_M_star x1 x2 x3 x4 g0 = some o) : zv_Fn z_TB z_cl z_KX zy_M_star zxm199 (1, 60) [.inr 0, .inl x1, .inl x2, .inl x3, .inl x4] [] [g0] (some o.1) [] [o.2] := zv_meth (K := (z_KF13, z_KC13, z_KL13, z_KT13, [], [], [], none)) (FT := z_FT) (MT := z_MT) (n := 5) zxp199 (z_ks13 _ (fun _ h => List.mem_cons_of_mem _ h) _ _ _ _ (fun j r h _ => by cases h)) (fun _ _ => zs_KX_p) zyw_M_star (fun va F G h => by obtain ⟨rfl, _⟩ := h; rfl) (fun va F G h => by obtain ⟨rfl, _⟩ := h; rfl) rfl fun good va F G hB hret hvret hP => by
  obtain ⟨rfl, rfl, rfl⟩ := hP
  unfold zf_M_star at h
  refine zv_ild hB zd199_0 rfl rfl ?_
  refine zv_con hB zd199_1 rfl ?_
  refine zv_con hB zd199_2 rfl ?_
  obtain ⟨r1, hr1, h⟩ := zi_bind h
  refine zv_cs hB (zv_emq (va2 := [.inl x1, .inl 0, .inl 23]) (F := []) (F' := []) (G := [g0]) (G' := [g0]) (ρ := []) (φ := []) (ψ := []) [] [none] zyw_M_in zyw_M_star zye_M_star (by decide +kernel) (zt_M_in hr1) trivial trivial rfl rfl rfl rfl rfl rfl rfl) zd199_4 zxt200 rfl (by decide) (by decide) rfl ?_
  refine zv_zeq hB zd199_7 rfl (fun hc2 => ?_) (fun hc2 => ?_)
  · rw [if_pos hc2] at h
    refine zv_con hB zd199_29 rfl ?_
    have hw := Option.some.inj h
    subst hw
    exact hret _ _ _ _ _ zd199_30 (by constructor <;> decide) ⟨rfl, rfl, rfl⟩
  · rw [if_neg hc2] at h
    refine zv_ild hB zd199_10 rfl rfl ?_
    refine zv_ild hB zd199_11 rfl rfl ?_
    obtain ⟨r3, hr3, h⟩ := zi_bind h
    refine zv_cs hB (zv_emq (va2 := [.inl x2, .inl x3]) (F := []) (F' := []) (G := [g0]) (G' := [g0]) (ρ := []) (φ := []) (ψ := []) [] [none] zyw_M_isPlace zyw_M_star zye_M_star (by decide +kernel) (zt_M_isPlace hr3) trivial trivial rfl rfl rfl rfl rfl rfl rfl) zd199_12 zxt201 rfl (by decide) (by decide) rfl ?_
    refine zv_zeq hB zd199_15 rfl (fun hc4 => ?_) (fun hc4 => ?_)
    · rw [if_pos hc4] at h
      refine zv_con hB zd199_29 rfl ?_
      have hw := Option.some.inj h
      subst hw
      exact hret _ _ _ _ _ zd199_30 (by constructor <;> decide) ⟨rfl, rfl, rfl⟩
    · rw [if_neg hc4] at h
      refine zv_ild hB zd199_18 rfl rfl ?_
      refine zv_con hB zd199_20 rfl ?_
      refine zv_con hB zd199_21 rfl ?_
      obtain ⟨r5, hr5, h⟩ := zi_bind h
      refine zv_cs hB (zv_emq (va2 := [.inl x4, .inl 1, .inl 9]) (F := []) (F' := []) (G := [g0]) (G' := [g0]) (ρ := []) (φ := []) (ψ := []) [] [none] zyw_M_in zyw_M_star zye_M_star (by decide +kernel) (zt_M_in hr5) trivial trivial rfl rfl rfl rfl rfl rfl rfl) zd199_23 zxt200 rfl (by decide) (by decide) rfl ?_
      refine zv_zne hB zd199_26 rfl (fun hc6 => ?_) (fun hc6 => ?_)
      · rw [if_neg hc6] at h
        refine zv_ald hB zd199_31 rfl rfl rfl ?_
        refine zv_getr hB zd199_32 rfl ?_
        refine zv_con hB zd199_35 rfl ?_
        refine zv_ald hB zd199_37 rfl rfl rfl ?_
        refine zv_getr hB zd199_38 rfl ?_
        refine zv_con hB zd199_41 rfl ?_
        refine zv_iald hB zd199_43 rfl rfl (by decide) (by decide) (fun _ _ => ?_)
        refine zv_con hB zd199_44 rfl ?_
        refine zv_ild hB zd199_45 rfl rfl ?_
        refine zv_shlw hB zd199_46 ?_
        refine zv_orw hB zd199_47 ?_
        refine zv_iast hB zd199_48 rfl rfl (by decide) (by decide) ?_
        refine zv_ald hB zd199_49 rfl rfl rfl ?_
        refine zv_getr hB zd199_50 rfl ?_
        refine zv_con hB zd199_53 rfl ?_
        refine zv_ild hB zd199_54 rfl rfl ?_
        refine zv_addw hB zd199_55 ?_
        refine zv_ild hB zd199_56 rfl rfl ?_
        obtain ⟨c7, h⟩ := zi_if h
        refine zv_iast hB zd199_57 rfl rfl (zi_ix_ok c7).1 (zi_ix_ok c7).2 ?_
        refine zv_ald hB zd199_58 rfl rfl rfl ?_
        refine zv_getr hB zd199_59 rfl ?_
        refine zv_con hB zd199_62 rfl ?_
        refine zv_ild hB zd199_64 rfl rfl ?_
        refine zv_addw hB zd199_65 ?_
        refine zv_ild hB zd199_66 rfl rfl ?_
        obtain ⟨c8, h⟩ := zi_if h
        refine zv_iast hB zd199_67 rfl rfl (zi_ix_ok c8).1 (zi_ix_ok c8).2 ?_
        refine zv_ald hB zd199_68 rfl rfl rfl ?_
        refine zv_getr hB zd199_69 rfl ?_
        refine zv_con hB zd199_72 rfl ?_
        refine zv_ild hB zd199_74 rfl rfl ?_
        refine zv_addw hB zd199_75 ?_
        refine zv_ild hB zd199_76 rfl rfl ?_
        obtain ⟨c9, h⟩ := zi_if h
        refine zv_iast hB zd199_78 rfl rfl (zi_ix_ok c9).1 (zi_ix_ok c9).2 ?_
        refine zv_ald hB zd199_79 rfl rfl rfl ?_
        refine zv_getr hB zd199_80 rfl ?_
        refine zv_con hB zd199_83 rfl ?_
        refine zv_ild hB zd199_85 rfl rfl ?_
        refine zv_addw hB zd199_86 ?_
        refine zv_con hB zd199_87 rfl ?_
        obtain ⟨c10, h⟩ := zi_if h
        refine zv_iast hB zd199_88 rfl rfl (zi_ix_ok c10).1 (zi_ix_ok c10).2 ?_
        refine zv_ald hB zd199_89 rfl rfl rfl ?_
        refine zv_getr hB zd199_90 rfl ?_
        refine zv_con hB zd199_93 rfl ?_
        refine zv_ild hB zd199_95 rfl rfl ?_
        refine zv_addw hB zd199_96 ?_
        refine zv_con hB zd199_97 rfl ?_
        obtain ⟨c11, h⟩ := zi_if h
        refine zv_iast hB zd199_98 rfl rfl (zi_ix_ok c11).1 (zi_ix_ok c11).2 ?_
        refine zv_con hB zd199_99 rfl ?_
        have hw := Option.some.inj h
        subst hw
        exact hret _ _ _ _ _ zd199_100 (by constructor <;> decide) ⟨rfl, rfl, rfl⟩
      · rw [if_pos hc6] at h
        refine zv_con hB zd199_29 rfl ?_
        have hw := Option.some.inj h
        subst hw
        exact hret _ _ _ _ _ zd199_30 (by constructor <;> decide) ⟨rfl, rfl, rfl⟩
/-! M_has (II)Z -/
-- names: 
-- fields: ; arrays: ; out: [('ret', None)]
abbrev zy_M_has : zNL := (0, [], [], [], [])
theorem zyw_M_has : zv_wf zy_M_has = true := by decide +kernel
theorem zye_M_has : zv_ek2 zy_M_has = true := by decide +kernel
def zf_M_has (x0 : Int) (x1 : Int) : Option (Int) := if (zi_and (zi_shr x0 x1) 1) = 1 then (some 1) else (some 0)
theorem zd204_0 : decode zxm204.2.1 0 = .ok (.iload_n 0, 1) := by decide +kernel
theorem zd204_1 : decode zxm204.2.1 1 = .ok (.iload_n 1, 1) := by decide +kernel
theorem zd204_2 : decode zxm204.2.1 2 = .ok (.ishr, 1) := by decide +kernel
theorem zd204_3 : decode zxm204.2.1 3 = .ok (.iconst 1, 1) := by decide +kernel
theorem zd204_4 : decode zxm204.2.1 4 = .ok (.iand, 1) := by decide +kernel
theorem zd204_5 : decode zxm204.2.1 5 = .ok (.iconst 1, 1) := by decide +kernel
theorem zd204_6 : decode zxm204.2.1 6 = .ok (.if_icmp .ne 7, 3) := by decide +kernel
theorem zd204_9 : decode zxm204.2.1 9 = .ok (.iconst 1, 1) := by decide +kernel
theorem zd204_10 : decode zxm204.2.1 10 = .ok (.goto 4, 3) := by decide +kernel
theorem zd204_13 : decode zxm204.2.1 13 = .ok (.iconst 0, 1) := by decide +kernel
theorem zd204_14 : decode zxm204.2.1 14 = .ok (.ireturn, 1) := by decide +kernel
theorem zt_M_has {x0 : Int} {x1 : Int} {o : Int} (h : zf_M_has x0 x1 = some o) : zv_Fn z_TB z_cl z_KX zy_M_has zxm204 (0, 0) [.inl x0, .inl x1] [] [] (some o) [] [] := zv_meth (K := (z_KF13, z_KC13, z_KL13, z_KT13, [], [], [], none)) (FT := z_FT) (MT := z_MT) (n := 2) zxp204 (z_ks13 _ (fun _ h => List.mem_cons_of_mem _ h) _ _ _ _ (fun j r h _ => by cases h)) (fun _ _ => zs_KX_p) zyw_M_has (fun va F G h => by obtain ⟨rfl, _⟩ := h; rfl) (fun va F G h => by obtain ⟨rfl, _⟩ := h; rfl) rfl fun good va F G hB hret hvret hP => by
  obtain ⟨rfl, rfl, rfl⟩ := hP
  unfold zf_M_has at h
  refine zv_ild hB zd204_0 rfl rfl ?_
  refine zv_ild hB zd204_1 rfl rfl ?_
  refine zv_shrw hB zd204_2 ?_
  refine zv_con hB zd204_3 rfl ?_
  refine zv_andw hB zd204_4 ?_
  refine zv_con hB zd204_5 rfl ?_
  refine zv_cne hB zd204_6 rfl (fun hc1 => ?_) (fun hc1 => ?_)
  · rw [if_neg hc1] at h
    refine zv_con hB zd204_13 rfl ?_
    have hw := Option.some.inj h
    subst hw
    exact hret _ _ _ _ _ zd204_14 (by constructor <;> decide) ⟨rfl, rfl, rfl⟩
  · rw [if_pos hc1] at h
    refine zv_con hB zd204_9 rfl ?_
    refine zv_goto hB zd204_10 rfl ?_
    have hw := Option.some.inj h
    subst hw
    exact hret _ _ _ _ _ zd204_14 (by constructor <;> decide) ⟨rfl, rfl, rfl⟩
/-! M_isTold (I)Z -/
-- names: 0 StarTalesModel('arg', 0), 1 (0, 422)(0, 12, 0)
-- fields: ; arrays: g0 = 1; out: [('ret', None)]
abbrev zy_M_isTold : zNL := (2, [(0, 12)], [], [(0, 12, 0, 1)], [(1, 0, 422, 0)])
theorem zyw_M_isTold : zv_wf zy_M_isTold = true := by decide +kernel
theorem zye_M_isTold : zv_ek2 zy_M_isTold = true := by decide +kernel
def zf_M_isTold (x1 : Int) (g0 : (Int → Int)) : Option (Int) := if x1 < 0 then (some 0) else (if x1 < 24 then ((zf_M_has (g0 126) x1).bind fun r3 => (if r3 = 0 then (some 0) else (some 1))) else (some 0))
theorem zd203_0 : decode zxm203.2.1 0 = .ok (.iload_n 1, 1) := by decide +kernel
theorem zd203_1 : decode zxm203.2.1 1 = .ok (.ifCond .lt 27, 3) := by decide +kernel
theorem zd203_4 : decode zxm203.2.1 4 = .ok (.iload_n 1, 1) := by decide +kernel
theorem zd203_5 : decode zxm203.2.1 5 = .ok (.bipush 24, 2) := by decide +kernel
theorem zd203_7 : decode zxm203.2.1 7 = .ok (.if_icmp .ge 21, 3) := by decide +kernel
theorem zd203_10 : decode zxm203.2.1 10 = .ok (.aload_n 0, 1) := by decide +kernel
theorem zd203_11 : decode zxm203.2.1 11 = .ok (.getfield 7, 3) := by decide +kernel
theorem zd203_14 : decode zxm203.2.1 14 = .ok (.bipush 126, 2) := by decide +kernel
theorem zd203_16 : decode zxm203.2.1 16 = .ok (.iaload, 1) := by decide +kernel
theorem zd203_17 : decode zxm203.2.1 17 = .ok (.iload_n 1, 1) := by decide +kernel
theorem zd203_18 : decode zxm203.2.1 18 = .ok (.invokestatic 138, 3) := by decide +kernel
theorem zd203_21 : decode zxm203.2.1 21 = .ok (.ifCond .eq 7, 3) := by decide +kernel
theorem zd203_24 : decode zxm203.2.1 24 = .ok (.iconst 1, 1) := by decide +kernel
theorem zd203_25 : decode zxm203.2.1 25 = .ok (.goto 4, 3) := by decide +kernel
theorem zd203_28 : decode zxm203.2.1 28 = .ok (.iconst 0, 1) := by decide +kernel
theorem zd203_29 : decode zxm203.2.1 29 = .ok (.ireturn, 1) := by decide +kernel
theorem zt_M_isTold {x1 : Int} {g0 : (Int → Int)} {o : Int} (h : zf_M_isTold x1 g0 = some o) : zv_Fn z_TB z_cl z_KX zy_M_isTold zxm203 (1, 60) [.inr 0, .inl x1] [] [g0] (some o) [] [g0] := zv_meth (K := (z_KF13, z_KC13, z_KL13, z_KT13, [], [], [], none)) (FT := z_FT) (MT := z_MT) (n := 2) zxp203 (z_ks13 _ (fun _ h => List.mem_cons_of_mem _ h) _ _ _ _ (fun j r h _ => by cases h)) (fun _ _ => zs_KX_p) zyw_M_isTold (fun va F G h => by obtain ⟨rfl, _⟩ := h; rfl) (fun va F G h => by obtain ⟨rfl, _⟩ := h; rfl) rfl fun good va F G hB hret hvret hP => by
  obtain ⟨rfl, rfl, rfl⟩ := hP
  unfold zf_M_isTold at h
  refine zv_ild hB zd203_0 rfl rfl ?_
  refine zv_zlt hB zd203_1 rfl (fun hc1 => ?_) (fun hc1 => ?_)
  · rw [if_pos hc1] at h
    refine zv_con hB zd203_28 rfl ?_
    have hw := Option.some.inj h
    subst hw
    exact hret _ _ _ _ _ zd203_29 (by constructor <;> decide) ⟨rfl, rfl, rfl⟩
  · rw [if_neg (Int.not_lt.mpr hc1)] at h
    refine zv_ild hB zd203_4 rfl rfl ?_
    refine zv_con hB zd203_5 rfl ?_
    refine zv_cge hB zd203_7 rfl (fun hc2 => ?_) (fun hc2 => ?_)
    · rw [if_neg (Int.not_lt.mpr hc2)] at h
      refine zv_con hB zd203_28 rfl ?_
      have hw := Option.some.inj h
      subst hw
      exact hret _ _ _ _ _ zd203_29 (by constructor <;> decide) ⟨rfl, rfl, rfl⟩
    · rw [if_pos hc2] at h
      refine zv_ald hB zd203_10 rfl rfl rfl ?_
      refine zv_getr hB zd203_11 rfl ?_
      refine zv_con hB zd203_14 rfl ?_
      refine zv_iald hB zd203_16 rfl rfl (by decide) (by decide) (fun _ _ => ?_)
      refine zv_ild hB zd203_17 rfl rfl ?_
      obtain ⟨r3, hr3, h⟩ := zi_bind h
      refine zv_cs hB (zv_emq (va2 := [.inl (g0 126), .inl x1]) (F := []) (F' := []) (G := [g0]) (G' := [g0]) (ρ := []) (φ := []) (ψ := []) [] [none] zyw_M_has zyw_M_isTold zye_M_isTold (by decide +kernel) (zt_M_has hr3) trivial trivial rfl rfl rfl rfl rfl rfl rfl) zd203_18 zxt204 rfl (by decide) (by decide) rfl ?_
      refine zv_zeq hB zd203_21 rfl (fun hc4 => ?_) (fun hc4 => ?_)
      · rw [if_pos hc4] at h
        refine zv_con hB zd203_28 rfl ?_
        have hw := Option.some.inj h
        subst hw
        exact hret _ _ _ _ _ zd203_29 (by constructor <;> decide) ⟨rfl, rfl, rfl⟩
      · rw [if_neg hc4] at h
        refine zv_con hB zd203_24 rfl ?_
        refine zv_goto hB zd203_25 rfl ?_
        have hw := Option.some.inj h
        subst hw
        exact hret _ _ _ _ _ zd203_29 (by constructor <;> decide) ⟨rfl, rfl, rfl⟩
/-! M_walk (III)Z -/
-- names: 0 StarTalesModel('arg', 0), 1 (0, 422)(0, 12, 0)
-- fields: ; arrays: g0 = 1; out: [('ret', None), ('g', 0)]
abbrev zy_M_walk : zNL := (2, [(0, 12)], [], [(0, 12, 0, 1)], [(1, 0, 422, 0)])
theorem zyw_M_walk : zv_wf zy_M_walk = true := by decide +kernel
theorem zye_M_walk : zv_ek2 zy_M_walk = true := by decide +kernel
def zf_M_walk (x1 : Int) (x2 : Int) (x3 : Int) (g0 : (Int → Int)) : Option (Int × (Int → Int)) := (zf_M_isTold x1 g0).bind fun r1 => (if r1 = 0 then (some (0, g0)) else ((zf_M_in x2 (-3) 3).bind fun r3 => (if r3 = 0 then (some (0, g0)) else ((zf_M_in x3 (-3) 3).bind fun r5 => (if r5 = 0 then (some (0, g0)) else (cond (zi_ix (zi_w (72 + x1)) 422) (cond (zi_ix (zi_w (96 + x1)) 422) (some (1, (zv_up (zv_up g0 (zi_w (72 + x1)) x2) (zi_w (96 + x1)) x3))) none) none))))))
theorem zd202_0 : decode zxm202.2.1 0 = .ok (.aload_n 0, 1) := by decide +kernel
theorem zd202_1 : decode zxm202.2.1 1 = .ok (.iload_n 1, 1) := by decide +kernel
theorem zd202_2 : decode zxm202.2.1 2 = .ok (.invokevirtual 157, 3) := by decide +kernel
theorem zd202_5 : decode zxm202.2.1 5 = .ok (.ifCond .eq 23, 3) := by decide +kernel
theorem zd202_8 : decode zxm202.2.1 8 = .ok (.iload_n 2, 1) := by decide +kernel
theorem zd202_9 : decode zxm202.2.1 9 = .ok (.bipush (-3), 2) := by decide +kernel
theorem zd202_11 : decode zxm202.2.1 11 = .ok (.iconst 3, 1) := by decide +kernel
theorem zd202_12 : decode zxm202.2.1 12 = .ok (.invokestatic 150, 3) := by decide +kernel
theorem zd202_15 : decode zxm202.2.1 15 = .ok (.ifCond .eq 13, 3) := by decide +kernel
theorem zd202_18 : decode zxm202.2.1 18 = .ok (.iload_n 3, 1) := by decide +kernel
theorem zd202_19 : decode zxm202.2.1 19 = .ok (.bipush (-3), 2) := by decide +kernel
theorem zd202_21 : decode zxm202.2.1 21 = .ok (.iconst 3, 1) := by decide +kernel
theorem zd202_22 : decode zxm202.2.1 22 = .ok (.invokestatic 150, 3) := by decide +kernel
theorem zd202_25 : decode zxm202.2.1 25 = .ok (.ifCond .ne 5, 3) := by decide +kernel
theorem zd202_28 : decode zxm202.2.1 28 = .ok (.iconst 0, 1) := by decide +kernel
theorem zd202_29 : decode zxm202.2.1 29 = .ok (.ireturn, 1) := by decide +kernel
theorem zd202_30 : decode zxm202.2.1 30 = .ok (.aload_n 0, 1) := by decide +kernel
theorem zd202_31 : decode zxm202.2.1 31 = .ok (.getfield 7, 3) := by decide +kernel
theorem zd202_34 : decode zxm202.2.1 34 = .ok (.bipush 72, 2) := by decide +kernel
theorem zd202_36 : decode zxm202.2.1 36 = .ok (.iload_n 1, 1) := by decide +kernel
theorem zd202_37 : decode zxm202.2.1 37 = .ok (.iadd, 1) := by decide +kernel
theorem zd202_38 : decode zxm202.2.1 38 = .ok (.iload_n 2, 1) := by decide +kernel
theorem zd202_39 : decode zxm202.2.1 39 = .ok (.iastore, 1) := by decide +kernel
theorem zd202_40 : decode zxm202.2.1 40 = .ok (.aload_n 0, 1) := by decide +kernel
theorem zd202_41 : decode zxm202.2.1 41 = .ok (.getfield 7, 3) := by decide +kernel
theorem zd202_44 : decode zxm202.2.1 44 = .ok (.bipush 96, 2) := by decide +kernel
theorem zd202_46 : decode zxm202.2.1 46 = .ok (.iload_n 1, 1) := by decide +kernel
theorem zd202_47 : decode zxm202.2.1 47 = .ok (.iadd, 1) := by decide +kernel
theorem zd202_48 : decode zxm202.2.1 48 = .ok (.iload_n 3, 1) := by decide +kernel
theorem zd202_49 : decode zxm202.2.1 49 = .ok (.iastore, 1) := by decide +kernel
theorem zd202_50 : decode zxm202.2.1 50 = .ok (.iconst 1, 1) := by decide +kernel
theorem zd202_51 : decode zxm202.2.1 51 = .ok (.ireturn, 1) := by decide +kernel
theorem zt_M_walk {x1 : Int} {x2 : Int} {x3 : Int} {g0 : (Int → Int)} {o : Int × (Int → Int)} (h : zf_M_walk x1 x2 x3 g0 = some o) : zv_Fn z_TB z_cl z_KX zy_M_walk zxm202 (2, 120) [.inr 0, .inl x1, .inl x2, .inl x3] [] [g0] (some o.1) [] [o.2] := zv_meth (K := (z_KF13, z_KC13, z_KL13, z_KT13, [], [], [], none)) (FT := z_FT) (MT := z_MT) (n := 4) zxp202 (z_ks13 _ (fun _ h => List.mem_cons_of_mem _ h) _ _ _ _ (fun j r h _ => by cases h)) (fun _ _ => zs_KX_p) zyw_M_walk (fun va F G h => by obtain ⟨rfl, _⟩ := h; rfl) (fun va F G h => by obtain ⟨rfl, _⟩ := h; rfl) rfl fun good va F G hB hret hvret hP => by
  obtain ⟨rfl, rfl, rfl⟩ := hP
  unfold zf_M_walk at h
  refine zv_ald hB zd202_0 rfl rfl rfl ?_
  refine zv_ild hB zd202_1 rfl rfl ?_
  obtain ⟨r1, hr1, h⟩ := zi_bind h
  refine zv_cv hB (zv_emq (va2 := [.inr 0, .inl x1]) (F := []) (F' := []) (G := [g0]) (G' := [g0]) (ρ := [0, 1]) (φ := []) (ψ := [0]) [] [some 0] zyw_M_isTold zyw_M_walk zye_M_walk (by decide +kernel) (zt_M_isTold hr1) trivial ⟨rfl, trivial⟩ rfl rfl rfl rfl rfl rfl rfl) zd202_2 zxt203 rfl (by decide) (by decide) rfl ?_
  refine zv_zeq hB zd202_5 rfl (fun hc2 => ?_) (fun hc2 => ?_)
  · rw [if_pos hc2] at h
    refine zv_con hB zd202_28 rfl ?_
    have hw := Option.some.inj h
    subst hw
    exact hret _ _ _ _ _ zd202_29 (by constructor <;> decide) ⟨rfl, rfl, rfl⟩
  · rw [if_neg hc2] at h
    refine zv_ild hB zd202_8 rfl rfl ?_
    refine zv_con hB zd202_9 rfl ?_
    refine zv_con hB zd202_11 rfl ?_
    obtain ⟨r3, hr3, h⟩ := zi_bind h
    refine zv_cs hB (zv_emq (va2 := [.inl x2, .inl (-3), .inl 3]) (F := []) (F' := []) (G := [g0]) (G' := [g0]) (ρ := []) (φ := []) (ψ := []) [] [none] zyw_M_in zyw_M_walk zye_M_walk (by decide +kernel) (zt_M_in hr3) trivial trivial rfl rfl rfl rfl rfl rfl rfl) zd202_12 zxt200 rfl (by decide) (by decide) rfl ?_
    refine zv_zeq hB zd202_15 rfl (fun hc4 => ?_) (fun hc4 => ?_)
    · rw [if_pos hc4] at h
      refine zv_con hB zd202_28 rfl ?_
      have hw := Option.some.inj h
      subst hw
      exact hret _ _ _ _ _ zd202_29 (by constructor <;> decide) ⟨rfl, rfl, rfl⟩
    · rw [if_neg hc4] at h
      refine zv_ild hB zd202_18 rfl rfl ?_
      refine zv_con hB zd202_19 rfl ?_
      refine zv_con hB zd202_21 rfl ?_
      obtain ⟨r5, hr5, h⟩ := zi_bind h
      refine zv_cs hB (zv_emq (va2 := [.inl x3, .inl (-3), .inl 3]) (F := []) (F' := []) (G := [g0]) (G' := [g0]) (ρ := []) (φ := []) (ψ := []) [] [none] zyw_M_in zyw_M_walk zye_M_walk (by decide +kernel) (zt_M_in hr5) trivial trivial rfl rfl rfl rfl rfl rfl rfl) zd202_22 zxt200 rfl (by decide) (by decide) rfl ?_
      refine zv_zne hB zd202_25 rfl (fun hc6 => ?_) (fun hc6 => ?_)
      · rw [if_neg hc6] at h
        refine zv_ald hB zd202_30 rfl rfl rfl ?_
        refine zv_getr hB zd202_31 rfl ?_
        refine zv_con hB zd202_34 rfl ?_
        refine zv_ild hB zd202_36 rfl rfl ?_
        refine zv_addw hB zd202_37 ?_
        refine zv_ild hB zd202_38 rfl rfl ?_
        obtain ⟨c7, h⟩ := zi_if h
        refine zv_iast hB zd202_39 rfl rfl (zi_ix_ok c7).1 (zi_ix_ok c7).2 ?_
        refine zv_ald hB zd202_40 rfl rfl rfl ?_
        refine zv_getr hB zd202_41 rfl ?_
        refine zv_con hB zd202_44 rfl ?_
        refine zv_ild hB zd202_46 rfl rfl ?_
        refine zv_addw hB zd202_47 ?_
        refine zv_ild hB zd202_48 rfl rfl ?_
        obtain ⟨c8, h⟩ := zi_if h
        refine zv_iast hB zd202_49 rfl rfl (zi_ix_ok c8).1 (zi_ix_ok c8).2 ?_
        refine zv_con hB zd202_50 rfl ?_
        have hw := Option.some.inj h
        subst hw
        exact hret _ _ _ _ _ zd202_51 (by constructor <;> decide) ⟨rfl, rfl, rfl⟩
      · rw [if_pos hc6] at h
        refine zv_con hB zd202_28 rfl ?_
        have hw := Option.some.inj h
        subst hw
        exact hret _ _ _ _ _ zd202_29 (by constructor <;> decide) ⟨rfl, rfl, rfl⟩
/-! M_gone (I)Z -/
-- names: 0 StarTalesModel('arg', 0), 1 (0, 422)(0, 12, 0)
-- fields: ; arrays: g0 = 1; out: [('ret', None), ('g', 0)]
abbrev zy_M_gone : zNL := (2, [(0, 12)], [], [(0, 12, 0, 1)], [(1, 0, 422, 0)])
theorem zyw_M_gone : zv_wf zy_M_gone = true := by decide +kernel
theorem zye_M_gone : zv_ek2 zy_M_gone = true := by decide +kernel
def zf_M_gone (x1 : Int) (g0 : (Int → Int)) : Option (Int × (Int → Int)) := (zf_M_isTold x1 g0).bind fun r1 => (if r1 = 0 then (some (0, g0)) else (some (1, (zv_up g0 126 (zi_and (g0 126) (zi_xor (zi_shl 1 x1) (-1)))))))
theorem zd205_0 : decode zxm205.2.1 0 = .ok (.aload_n 0, 1) := by decide +kernel
theorem zd205_1 : decode zxm205.2.1 1 = .ok (.iload_n 1, 1) := by decide +kernel
theorem zd205_2 : decode zxm205.2.1 2 = .ok (.invokevirtual 157, 3) := by decide +kernel
theorem zd205_5 : decode zxm205.2.1 5 = .ok (.ifCond .ne 5, 3) := by decide +kernel
theorem zd205_8 : decode zxm205.2.1 8 = .ok (.iconst 0, 1) := by decide +kernel
theorem zd205_9 : decode zxm205.2.1 9 = .ok (.ireturn, 1) := by decide +kernel
theorem zd205_10 : decode zxm205.2.1 10 = .ok (.aload_n 0, 1) := by decide +kernel
theorem zd205_11 : decode zxm205.2.1 11 = .ok (.getfield 7, 3) := by decide +kernel
theorem zd205_14 : decode zxm205.2.1 14 = .ok (.bipush 126, 2) := by decide +kernel
theorem zd205_16 : decode zxm205.2.1 16 = .ok (.aload_n 0, 1) := by decide +kernel
theorem zd205_17 : decode zxm205.2.1 17 = .ok (.getfield 7, 3) := by decide +kernel
theorem zd205_20 : decode zxm205.2.1 20 = .ok (.bipush 126, 2) := by decide +kernel
theorem zd205_22 : decode zxm205.2.1 22 = .ok (.iaload, 1) := by decide +kernel
theorem zd205_23 : decode zxm205.2.1 23 = .ok (.iconst 1, 1) := by decide +kernel
theorem zd205_24 : decode zxm205.2.1 24 = .ok (.iload_n 1, 1) := by decide +kernel
theorem zd205_25 : decode zxm205.2.1 25 = .ok (.ishl, 1) := by decide +kernel
theorem zd205_26 : decode zxm205.2.1 26 = .ok (.iconst (-1), 1) := by decide +kernel
theorem zd205_27 : decode zxm205.2.1 27 = .ok (.ixor, 1) := by decide +kernel
theorem zd205_28 : decode zxm205.2.1 28 = .ok (.iand, 1) := by decide +kernel
theorem zd205_29 : decode zxm205.2.1 29 = .ok (.iastore, 1) := by decide +kernel
theorem zd205_30 : decode zxm205.2.1 30 = .ok (.iconst 1, 1) := by decide +kernel
theorem zd205_31 : decode zxm205.2.1 31 = .ok (.ireturn, 1) := by decide +kernel
theorem zt_M_gone {x1 : Int} {g0 : (Int → Int)} {o : Int × (Int → Int)} (h : zf_M_gone x1 g0 = some o) : zv_Fn z_TB z_cl z_KX zy_M_gone zxm205 (2, 120) [.inr 0, .inl x1] [] [g0] (some o.1) [] [o.2] := zv_meth (K := (z_KF13, z_KC13, z_KL13, z_KT13, [], [], [], none)) (FT := z_FT) (MT := z_MT) (n := 2) zxp205 (z_ks13 _ (fun _ h => List.mem_cons_of_mem _ h) _ _ _ _ (fun j r h _ => by cases h)) (fun _ _ => zs_KX_p) zyw_M_gone (fun va F G h => by obtain ⟨rfl, _⟩ := h; rfl) (fun va F G h => by obtain ⟨rfl, _⟩ := h; rfl) rfl fun good va F G hB hret hvret hP => by
  obtain ⟨rfl, rfl, rfl⟩ := hP
  unfold zf_M_gone at h
  refine zv_ald hB zd205_0 rfl rfl rfl ?_
  refine zv_ild hB zd205_1 rfl rfl ?_
  obtain ⟨r1, hr1, h⟩ := zi_bind h
  refine zv_cv hB (zv_emq (va2 := [.inr 0, .inl x1]) (F := []) (F' := []) (G := [g0]) (G' := [g0]) (ρ := [0, 1]) (φ := []) (ψ := [0]) [] [some 0] zyw_M_isTold zyw_M_gone zye_M_gone (by decide +kernel) (zt_M_isTold hr1) trivial ⟨rfl, trivial⟩ rfl rfl rfl rfl rfl rfl rfl) zd205_2 zxt203 rfl (by decide) (by decide) rfl ?_
  refine zv_zne hB zd205_5 rfl (fun hc2 => ?_) (fun hc2 => ?_)
  · rw [if_neg hc2] at h
    refine zv_ald hB zd205_10 rfl rfl rfl ?_
    refine zv_getr hB zd205_11 rfl ?_
    refine zv_con hB zd205_14 rfl ?_
    refine zv_ald hB zd205_16 rfl rfl rfl ?_
    refine zv_getr hB zd205_17 rfl ?_
    refine zv_con hB zd205_20 rfl ?_
    refine zv_iald hB zd205_22 rfl rfl (by decide) (by decide) (fun _ _ => ?_)
    refine zv_con hB zd205_23 rfl ?_
    refine zv_ild hB zd205_24 rfl rfl ?_
    refine zv_shlw hB zd205_25 ?_
    refine zv_con hB zd205_26 rfl ?_
    refine zv_xorw hB zd205_27 ?_
    refine zv_andw hB zd205_28 ?_
    refine zv_iast hB zd205_29 rfl rfl (by decide) (by decide) ?_
    refine zv_con hB zd205_30 rfl ?_
    have hw := Option.some.inj h
    subst hw
    exact hret _ _ _ _ _ zd205_31 (by constructor <;> decide) ⟨rfl, rfl, rfl⟩
  · rw [if_pos hc2] at h
    refine zv_con hB zd205_8 rfl ?_
    have hw := Option.some.inj h
    subst hw
    exact hret _ _ _ _ _ zd205_9 (by constructor <;> decide) ⟨rfl, rfl, rfl⟩
/-! M_hour (I)Z -/
-- names: 0 StarTalesModel('arg', 0), 1 (0, 422)(0, 12, 0)
-- fields: ; arrays: g0 = 1; out: [('ret', None), ('g', 0)]
abbrev zy_M_hour : zNL := (2, [(0, 12)], [], [(0, 12, 0, 1)], [(1, 0, 422, 0)])
theorem zyw_M_hour : zv_wf zy_M_hour = true := by decide +kernel
theorem zye_M_hour : zv_ek2 zy_M_hour = true := by decide +kernel
def zf_M_hour (x1 : Int) (g0 : (Int → Int)) : Option (Int × (Int → Int)) := (zf_M_in x1 0 23).bind fun r1 => (if r1 = 0 then (some (0, g0)) else (some (1, (zv_up g0 128 x1))))
theorem zd206_0 : decode zxm206.2.1 0 = .ok (.iload_n 1, 1) := by decide +kernel
theorem zd206_1 : decode zxm206.2.1 1 = .ok (.iconst 0, 1) := by decide +kernel
theorem zd206_2 : decode zxm206.2.1 2 = .ok (.bipush 23, 2) := by decide +kernel
theorem zd206_4 : decode zxm206.2.1 4 = .ok (.invokestatic 150, 3) := by decide +kernel
theorem zd206_7 : decode zxm206.2.1 7 = .ok (.ifCond .ne 5, 3) := by decide +kernel
theorem zd206_10 : decode zxm206.2.1 10 = .ok (.iconst 0, 1) := by decide +kernel
theorem zd206_11 : decode zxm206.2.1 11 = .ok (.ireturn, 1) := by decide +kernel
theorem zd206_12 : decode zxm206.2.1 12 = .ok (.aload_n 0, 1) := by decide +kernel
theorem zd206_13 : decode zxm206.2.1 13 = .ok (.getfield 7, 3) := by decide +kernel
theorem zd206_16 : decode zxm206.2.1 16 = .ok (.sipush 128, 3) := by decide +kernel
theorem zd206_19 : decode zxm206.2.1 19 = .ok (.iload_n 1, 1) := by decide +kernel
theorem zd206_20 : decode zxm206.2.1 20 = .ok (.iastore, 1) := by decide +kernel
theorem zd206_21 : decode zxm206.2.1 21 = .ok (.iconst 1, 1) := by decide +kernel
theorem zd206_22 : decode zxm206.2.1 22 = .ok (.ireturn, 1) := by decide +kernel
theorem zt_M_hour {x1 : Int} {g0 : (Int → Int)} {o : Int × (Int → Int)} (h : zf_M_hour x1 g0 = some o) : zv_Fn z_TB z_cl z_KX zy_M_hour zxm206 (1, 60) [.inr 0, .inl x1] [] [g0] (some o.1) [] [o.2] := zv_meth (K := (z_KF13, z_KC13, z_KL13, z_KT13, [], [], [], none)) (FT := z_FT) (MT := z_MT) (n := 2) zxp206 (z_ks13 _ (fun _ h => List.mem_cons_of_mem _ h) _ _ _ _ (fun j r h _ => by cases h)) (fun _ _ => zs_KX_p) zyw_M_hour (fun va F G h => by obtain ⟨rfl, _⟩ := h; rfl) (fun va F G h => by obtain ⟨rfl, _⟩ := h; rfl) rfl fun good va F G hB hret hvret hP => by
  obtain ⟨rfl, rfl, rfl⟩ := hP
  unfold zf_M_hour at h
  refine zv_ild hB zd206_0 rfl rfl ?_
  refine zv_con hB zd206_1 rfl ?_
  refine zv_con hB zd206_2 rfl ?_
  obtain ⟨r1, hr1, h⟩ := zi_bind h
  refine zv_cs hB (zv_emq (va2 := [.inl x1, .inl 0, .inl 23]) (F := []) (F' := []) (G := [g0]) (G' := [g0]) (ρ := []) (φ := []) (ψ := []) [] [none] zyw_M_in zyw_M_hour zye_M_hour (by decide +kernel) (zt_M_in hr1) trivial trivial rfl rfl rfl rfl rfl rfl rfl) zd206_4 zxt200 rfl (by decide) (by decide) rfl ?_
  refine zv_zne hB zd206_7 rfl (fun hc2 => ?_) (fun hc2 => ?_)
  · rw [if_neg hc2] at h
    refine zv_ald hB zd206_12 rfl rfl rfl ?_
    refine zv_getr hB zd206_13 rfl ?_
    refine zv_con hB zd206_16 rfl ?_
    refine zv_ild hB zd206_19 rfl rfl ?_
    refine zv_iast hB zd206_20 rfl rfl (by decide) (by decide) ?_
    refine zv_con hB zd206_21 rfl ?_
    have hw := Option.some.inj h
    subst hw
    exact hret _ _ _ _ _ zd206_22 (by constructor <;> decide) ⟨rfl, rfl, rfl⟩
  · rw [if_pos hc2] at h
    refine zv_con hB zd206_10 rfl ?_
    have hw := Option.some.inj h
    subst hw
    exact hret _ _ _ _ _ zd206_11 (by constructor <;> decide) ⟨rfl, rfl, rfl⟩
/-! M_clouds (I)Z -/
-- names: 0 StarTalesModel('arg', 0), 1 (0, 422)(0, 12, 0)
-- fields: ; arrays: g0 = 1; out: [('ret', None), ('g', 0)]
abbrev zy_M_clouds : zNL := (2, [(0, 12)], [], [(0, 12, 0, 1)], [(1, 0, 422, 0)])
theorem zyw_M_clouds : zv_wf zy_M_clouds = true := by decide +kernel
theorem zye_M_clouds : zv_ek2 zy_M_clouds = true := by decide +kernel
def zf_M_clouds (x1 : Int) (g0 : (Int → Int)) : Option (Int × (Int → Int)) := (zf_M_in x1 0 16777215).bind fun r1 => (if r1 = 0 then (some (0, g0)) else (some (1, (zv_up g0 130 x1))))
theorem zd207_0 : decode zxm207.2.1 0 = .ok (.iload_n 1, 1) := by decide +kernel
theorem zd207_1 : decode zxm207.2.1 1 = .ok (.iconst 0, 1) := by decide +kernel
theorem zd207_2 : decode zxm207.2.1 2 = .ok (.ldc 161, 2) := by decide +kernel
theorem zd207_4 : decode zxm207.2.1 4 = .ok (.invokestatic 150, 3) := by decide +kernel
theorem zd207_7 : decode zxm207.2.1 7 = .ok (.ifCond .ne 5, 3) := by decide +kernel
theorem zd207_10 : decode zxm207.2.1 10 = .ok (.iconst 0, 1) := by decide +kernel
theorem zd207_11 : decode zxm207.2.1 11 = .ok (.ireturn, 1) := by decide +kernel
theorem zd207_12 : decode zxm207.2.1 12 = .ok (.aload_n 0, 1) := by decide +kernel
theorem zd207_13 : decode zxm207.2.1 13 = .ok (.getfield 7, 3) := by decide +kernel
theorem zd207_16 : decode zxm207.2.1 16 = .ok (.sipush 130, 3) := by decide +kernel
theorem zd207_19 : decode zxm207.2.1 19 = .ok (.iload_n 1, 1) := by decide +kernel
theorem zd207_20 : decode zxm207.2.1 20 = .ok (.iastore, 1) := by decide +kernel
theorem zd207_21 : decode zxm207.2.1 21 = .ok (.iconst 1, 1) := by decide +kernel
theorem zd207_22 : decode zxm207.2.1 22 = .ok (.ireturn, 1) := by decide +kernel
theorem zt_M_clouds {x1 : Int} {g0 : (Int → Int)} {o : Int × (Int → Int)} (h : zf_M_clouds x1 g0 = some o) : zv_Fn z_TB z_cl z_KX zy_M_clouds zxm207 (1, 60) [.inr 0, .inl x1] [] [g0] (some o.1) [] [o.2] := zv_meth (K := (z_KF13, z_KC13, z_KL13, z_KT13, [], [], [], none)) (FT := z_FT) (MT := z_MT) (n := 2) zxp207 (z_ks13 _ (fun _ h => List.mem_cons_of_mem _ h) _ _ _ _ (fun j r h _ => by cases h)) (fun _ _ => zs_KX_p) zyw_M_clouds (fun va F G h => by obtain ⟨rfl, _⟩ := h; rfl) (fun va F G h => by obtain ⟨rfl, _⟩ := h; rfl) rfl fun good va F G hB hret hvret hP => by
  obtain ⟨rfl, rfl, rfl⟩ := hP
  unfold zf_M_clouds at h
  refine zv_ild hB zd207_0 rfl rfl ?_
  refine zv_con hB zd207_1 rfl ?_
  refine zv_con (n := 16777215) hB zd207_2 (by decide +kernel) ?_
  obtain ⟨r1, hr1, h⟩ := zi_bind h
  refine zv_cs hB (zv_emq (va2 := [.inl x1, .inl 0, .inl 16777215]) (F := []) (F' := []) (G := [g0]) (G' := [g0]) (ρ := []) (φ := []) (ψ := []) [] [none] zyw_M_in zyw_M_clouds zye_M_clouds (by decide +kernel) (zt_M_in hr1) trivial trivial rfl rfl rfl rfl rfl rfl rfl) zd207_4 zxt200 rfl (by decide) (by decide) rfl ?_
  refine zv_zne hB zd207_7 rfl (fun hc2 => ?_) (fun hc2 => ?_)
  · rw [if_neg hc2] at h
    refine zv_ald hB zd207_12 rfl rfl rfl ?_
    refine zv_getr hB zd207_13 rfl ?_
    refine zv_con hB zd207_16 rfl ?_
    refine zv_ild hB zd207_19 rfl rfl ?_
    refine zv_iast hB zd207_20 rfl rfl (by decide) (by decide) ?_
    refine zv_con hB zd207_21 rfl ?_
    have hw := Option.some.inj h
    subst hw
    exact hret _ _ _ _ _ zd207_22 (by constructor <;> decide) ⟨rfl, rfl, rfl⟩
  · rw [if_pos hc2] at h
    refine zv_con hB zd207_10 rfl ?_
    have hw := Option.some.inj h
    subst hw
    exact hret _ _ _ _ _ zd207_11 (by constructor <;> decide) ⟨rfl, rfl, rfl⟩
/-! M_sight (II)Z -/
-- names: 0 StarTalesModel('arg', 0), 1 (0, 422)(0, 12, 0)
-- fields: ; arrays: g0 = 1; out: [('ret', None), ('g', 0)]
abbrev zy_M_sight : zNL := (2, [(0, 12)], [], [(0, 12, 0, 1)], [(1, 0, 422, 0)])
theorem zyw_M_sight : zv_wf zy_M_sight = true := by decide +kernel
theorem zye_M_sight : zv_ek2 zy_M_sight = true := by decide +kernel
def zf_M_sight (x1 : Int) (x2 : Int) (g0 : (Int → Int)) : Option (Int × (Int → Int)) := (zf_M_in x1 0 11).bind fun r1 => (if r1 = 0 then (some (0, g0)) else ((zf_M_in x2 0 11).bind fun r3 => (if r3 = 0 then (some (0, g0)) else (some (1, (zv_up (zv_up g0 131 x1) 132 x2))))))
theorem zd208_0 : decode zxm208.2.1 0 = .ok (.iload_n 1, 1) := by decide +kernel
theorem zd208_1 : decode zxm208.2.1 1 = .ok (.iconst 0, 1) := by decide +kernel
theorem zd208_2 : decode zxm208.2.1 2 = .ok (.bipush 11, 2) := by decide +kernel
theorem zd208_4 : decode zxm208.2.1 4 = .ok (.invokestatic 150, 3) := by decide +kernel
theorem zd208_7 : decode zxm208.2.1 7 = .ok (.ifCond .eq 13, 3) := by decide +kernel
theorem zd208_10 : decode zxm208.2.1 10 = .ok (.iload_n 2, 1) := by decide +kernel
theorem zd208_11 : decode zxm208.2.1 11 = .ok (.iconst 0, 1) := by decide +kernel
theorem zd208_12 : decode zxm208.2.1 12 = .ok (.bipush 11, 2) := by decide +kernel
theorem zd208_14 : decode zxm208.2.1 14 = .ok (.invokestatic 150, 3) := by decide +kernel
theorem zd208_17 : decode zxm208.2.1 17 = .ok (.ifCond .ne 5, 3) := by decide +kernel
theorem zd208_20 : decode zxm208.2.1 20 = .ok (.iconst 0, 1) := by decide +kernel
theorem zd208_21 : decode zxm208.2.1 21 = .ok (.ireturn, 1) := by decide +kernel
theorem zd208_22 : decode zxm208.2.1 22 = .ok (.aload_n 0, 1) := by decide +kernel
theorem zd208_23 : decode zxm208.2.1 23 = .ok (.getfield 7, 3) := by decide +kernel
theorem zd208_26 : decode zxm208.2.1 26 = .ok (.sipush 131, 3) := by decide +kernel
theorem zd208_29 : decode zxm208.2.1 29 = .ok (.iload_n 1, 1) := by decide +kernel
theorem zd208_30 : decode zxm208.2.1 30 = .ok (.iastore, 1) := by decide +kernel
theorem zd208_31 : decode zxm208.2.1 31 = .ok (.aload_n 0, 1) := by decide +kernel
theorem zd208_32 : decode zxm208.2.1 32 = .ok (.getfield 7, 3) := by decide +kernel
theorem zd208_35 : decode zxm208.2.1 35 = .ok (.sipush 132, 3) := by decide +kernel
theorem zd208_38 : decode zxm208.2.1 38 = .ok (.iload_n 2, 1) := by decide +kernel
theorem zd208_39 : decode zxm208.2.1 39 = .ok (.iastore, 1) := by decide +kernel
theorem zd208_40 : decode zxm208.2.1 40 = .ok (.iconst 1, 1) := by decide +kernel
theorem zd208_41 : decode zxm208.2.1 41 = .ok (.ireturn, 1) := by decide +kernel
theorem zt_M_sight {x1 : Int} {x2 : Int} {g0 : (Int → Int)} {o : Int × (Int → Int)} (h : zf_M_sight x1 x2 g0 = some o) : zv_Fn z_TB z_cl z_KX zy_M_sight zxm208 (1, 60) [.inr 0, .inl x1, .inl x2] [] [g0] (some o.1) [] [o.2] := zv_meth (K := (z_KF13, z_KC13, z_KL13, z_KT13, [], [], [], none)) (FT := z_FT) (MT := z_MT) (n := 3) zxp208 (z_ks13 _ (fun _ h => List.mem_cons_of_mem _ h) _ _ _ _ (fun j r h _ => by cases h)) (fun _ _ => zs_KX_p) zyw_M_sight (fun va F G h => by obtain ⟨rfl, _⟩ := h; rfl) (fun va F G h => by obtain ⟨rfl, _⟩ := h; rfl) rfl fun good va F G hB hret hvret hP => by
  obtain ⟨rfl, rfl, rfl⟩ := hP
  unfold zf_M_sight at h
  refine zv_ild hB zd208_0 rfl rfl ?_
  refine zv_con hB zd208_1 rfl ?_
  refine zv_con hB zd208_2 rfl ?_
  obtain ⟨r1, hr1, h⟩ := zi_bind h
  refine zv_cs hB (zv_emq (va2 := [.inl x1, .inl 0, .inl 11]) (F := []) (F' := []) (G := [g0]) (G' := [g0]) (ρ := []) (φ := []) (ψ := []) [] [none] zyw_M_in zyw_M_sight zye_M_sight (by decide +kernel) (zt_M_in hr1) trivial trivial rfl rfl rfl rfl rfl rfl rfl) zd208_4 zxt200 rfl (by decide) (by decide) rfl ?_
  refine zv_zeq hB zd208_7 rfl (fun hc2 => ?_) (fun hc2 => ?_)
  · rw [if_pos hc2] at h
    refine zv_con hB zd208_20 rfl ?_
    have hw := Option.some.inj h
    subst hw
    exact hret _ _ _ _ _ zd208_21 (by constructor <;> decide) ⟨rfl, rfl, rfl⟩
  · rw [if_neg hc2] at h
    refine zv_ild hB zd208_10 rfl rfl ?_
    refine zv_con hB zd208_11 rfl ?_
    refine zv_con hB zd208_12 rfl ?_
    obtain ⟨r3, hr3, h⟩ := zi_bind h
    refine zv_cs hB (zv_emq (va2 := [.inl x2, .inl 0, .inl 11]) (F := []) (F' := []) (G := [g0]) (G' := [g0]) (ρ := []) (φ := []) (ψ := []) [] [none] zyw_M_in zyw_M_sight zye_M_sight (by decide +kernel) (zt_M_in hr3) trivial trivial rfl rfl rfl rfl rfl rfl rfl) zd208_14 zxt200 rfl (by decide) (by decide) rfl ?_
    refine zv_zne hB zd208_17 rfl (fun hc4 => ?_) (fun hc4 => ?_)
    · rw [if_neg hc4] at h
      refine zv_ald hB zd208_22 rfl rfl rfl ?_
      refine zv_getr hB zd208_23 rfl ?_
      refine zv_con hB zd208_26 rfl ?_
      refine zv_ild hB zd208_29 rfl rfl ?_
      refine zv_iast hB zd208_30 rfl rfl (by decide) (by decide) ?_
      refine zv_ald hB zd208_31 rfl rfl rfl ?_
      refine zv_getr hB zd208_32 rfl ?_
      refine zv_con hB zd208_35 rfl ?_
      refine zv_ild hB zd208_38 rfl rfl ?_
      refine zv_iast hB zd208_39 rfl rfl (by decide) (by decide) ?_
      refine zv_con hB zd208_40 rfl ?_
      have hw := Option.some.inj h
      subst hw
      exact hret _ _ _ _ _ zd208_41 (by constructor <;> decide) ⟨rfl, rfl, rfl⟩
    · rw [if_pos hc4] at h
      refine zv_con hB zd208_20 rfl ?_
      have hw := Option.some.inj h
      subst hw
      exact hret _ _ _ _ _ zd208_21 (by constructor <;> decide) ⟨rfl, rfl, rfl⟩
