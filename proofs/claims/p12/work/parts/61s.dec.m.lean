/-! 61s.dec, 61t.dec -/
section
/-! Methods as functions, and that they do what these do. -/
/-! X_count (I)I -/
-- names: 0 StarTales('arg', 0), 1 Sky(0, 0, 0), 2 Sea(0, 0, 3), 3 Law(0, 0, 7), 4 Tale(0, 0, 10), 5 Tape(0, 0, 6), 6 (0, 12)(2, 2, 0), 7 (0, 6)(2, 2, 2)
-- fields: f0 = 1.hour_, f1 = 1.night_, f2 = 1.clouds_, f3 = 1.told_, f4 = 2.shipsTold_, f5 = 0.ruling_, f6 = 3.clauses_, f7 = 0.telling_, f8 = 4.lines_, f9 = 5.size_, f10 = 1.chance_, f11 = 1.sightColumns_, f12 = 1.sightRows_; arrays: g0 = 6, g1 = 7; out: [('ret', None)]
abbrev zy_X_count : zNL := (8, [(0, 0), (1, 1), (2, 2), (3, 4), (4, 6), (5, 3)], [(1, 1, 6, 0), (1, 1, 7, 1), (1, 1, 8, 2), (1, 1, 0, 3), (2, 2, 1, 4), (0, 0, 7, 5), (3, 4, 7, 6), (0, 0, 10, 7), (4, 6, 0, 8), (5, 3, 1, 9), (1, 1, 11, 10), (1, 1, 9, 11), (1, 1, 10, 12)], [(0, 0, 0, 1), (0, 0, 3, 2), (0, 0, 6, 5), (2, 2, 0, 6), (2, 2, 2, 7)], [(6, 0, 12, 0), (7, 0, 6, 1)])
theorem zyw_X_count : zv_wf zy_X_count = true := by decide +kernel
theorem zye_X_count : zv_ek2 zy_X_count = true := by decide +kernel
def zf_X_count (x1 : Int) (f0 : Int) (f1 : Int) (f2 : Int) (f3 : Int) (f4 : Int) (f6 : Int) (f8 : Int) (f9 : Int) (f10 : Int) (f11 : Int) (f12 : Int) (g0 : (Int → Int)) (g1 : (Int → Int)) : Option (Int) := if x1 = 0 then (some f0) else (if x1 = 1 then (some f1) else (if x1 = 2 then (some f2) else (if x1 = 3 then ((zf_Integer_bitCount f3).bind fun r5 => (some r5)) else (if x1 = 4 then (some f4) else (if x1 = 5 then (some f6) else (if x1 = 6 then (some f8) else (if x1 = 7 then (some f9) else (if x1 = 8 then (some f10) else (if x1 = 9 then (some (zi_w ((zi_w (100 * f11)) + f12))) else (if x1 = 10 then ((zf_Sea_countLand g0).bind fun r13 => (some r13)) else ((zf_X_isWithin x1 20 25).bind fun r14 => (if r14 = 0 then (some (-1)) else ((zf_Sea_hasShip (zi_w (x1 - 20)) f4).bind fun r16 => (if r16 = 0 then (some (-1)) else (cond (zi_ix (zi_w (x1 - 20)) 6) (some (g1 (zi_w (x1 - 20)))) none)))))))))))))))
theorem zd196_0 : decode zxm196.2.1 0 = .ok (.iload_n 1, 1) := by decide +kernel
theorem zd196_1 : decode zxm196.2.1 1 = .ok (.tableswitch 161 0 10 #[59, 67, 75, 83, 94, 102, 110, 118, 126, 134, 153], 59) := by decide +kernel
theorem zd196_60 : decode zxm196.2.1 60 = .ok (.aload_n 0, 1) := by decide +kernel
theorem zd196_61 : decode zxm196.2.1 61 = .ok (.getfield 10, 3) := by decide +kernel
theorem zd196_64 : decode zxm196.2.1 64 = .ok (.getfield 157, 3) := by decide +kernel
theorem zd196_67 : decode zxm196.2.1 67 = .ok (.ireturn, 1) := by decide +kernel
theorem zd196_68 : decode zxm196.2.1 68 = .ok (.aload_n 0, 1) := by decide +kernel
theorem zd196_69 : decode zxm196.2.1 69 = .ok (.getfield 10, 3) := by decide +kernel
theorem zd196_72 : decode zxm196.2.1 72 = .ok (.getfield 337, 3) := by decide +kernel
theorem zd196_75 : decode zxm196.2.1 75 = .ok (.ireturn, 1) := by decide +kernel
theorem zd196_76 : decode zxm196.2.1 76 = .ok (.aload_n 0, 1) := by decide +kernel
theorem zd196_77 : decode zxm196.2.1 77 = .ok (.getfield 10, 3) := by decide +kernel
theorem zd196_80 : decode zxm196.2.1 80 = .ok (.getfield 161, 3) := by decide +kernel
theorem zd196_83 : decode zxm196.2.1 83 = .ok (.ireturn, 1) := by decide +kernel
theorem zd196_84 : decode zxm196.2.1 84 = .ok (.aload_n 0, 1) := by decide +kernel
theorem zd196_85 : decode zxm196.2.1 85 = .ok (.getfield 10, 3) := by decide +kernel
theorem zd196_88 : decode zxm196.2.1 88 = .ok (.getfield 134, 3) := by decide +kernel
theorem zd196_91 : decode zxm196.2.1 91 = .ok (.invokestatic 235, 3) := by decide +kernel
theorem zd196_94 : decode zxm196.2.1 94 = .ok (.ireturn, 1) := by decide +kernel
theorem zd196_95 : decode zxm196.2.1 95 = .ok (.aload_n 0, 1) := by decide +kernel
theorem zd196_96 : decode zxm196.2.1 96 = .ok (.getfield 25, 3) := by decide +kernel
theorem zd196_99 : decode zxm196.2.1 99 = .ok (.getfield 184, 3) := by decide +kernel
theorem zd196_102 : decode zxm196.2.1 102 = .ok (.ireturn, 1) := by decide +kernel
theorem zd196_103 : decode zxm196.2.1 103 = .ok (.aload_n 0, 1) := by decide +kernel
theorem zd196_104 : decode zxm196.2.1 104 = .ok (.getfield 46, 3) := by decide +kernel
theorem zd196_107 : decode zxm196.2.1 107 = .ok (.getfield 420, 3) := by decide +kernel
theorem zd196_110 : decode zxm196.2.1 110 = .ok (.ireturn, 1) := by decide +kernel
theorem zd196_111 : decode zxm196.2.1 111 = .ok (.aload_n 0, 1) := by decide +kernel
theorem zd196_112 : decode zxm196.2.1 112 = .ok (.getfield 69, 3) := by decide +kernel
theorem zd196_115 : decode zxm196.2.1 115 = .ok (.getfield 253, 3) := by decide +kernel
theorem zd196_118 : decode zxm196.2.1 118 = .ok (.ireturn, 1) := by decide +kernel
theorem zd196_119 : decode zxm196.2.1 119 = .ok (.aload_n 0, 1) := by decide +kernel
theorem zd196_120 : decode zxm196.2.1 120 = .ok (.getfield 39, 3) := by decide +kernel
theorem zd196_123 : decode zxm196.2.1 123 = .ok (.getfield 190, 3) := by decide +kernel
theorem zd196_126 : decode zxm196.2.1 126 = .ok (.ireturn, 1) := by decide +kernel
theorem zd196_127 : decode zxm196.2.1 127 = .ok (.aload_n 0, 1) := by decide +kernel
theorem zd196_128 : decode zxm196.2.1 128 = .ok (.getfield 10, 3) := by decide +kernel
theorem zd196_131 : decode zxm196.2.1 131 = .ok (.getfield 411, 3) := by decide +kernel
theorem zd196_134 : decode zxm196.2.1 134 = .ok (.ireturn, 1) := by decide +kernel
theorem zd196_135 : decode zxm196.2.1 135 = .ok (.bipush 100, 2) := by decide +kernel
theorem zd196_137 : decode zxm196.2.1 137 = .ok (.aload_n 0, 1) := by decide +kernel
theorem zd196_138 : decode zxm196.2.1 138 = .ok (.getfield 10, 3) := by decide +kernel
theorem zd196_141 : decode zxm196.2.1 141 = .ok (.getfield 164, 3) := by decide +kernel
theorem zd196_144 : decode zxm196.2.1 144 = .ok (.imul, 1) := by decide +kernel
theorem zd196_145 : decode zxm196.2.1 145 = .ok (.aload_n 0, 1) := by decide +kernel
theorem zd196_146 : decode zxm196.2.1 146 = .ok (.getfield 10, 3) := by decide +kernel
theorem zd196_149 : decode zxm196.2.1 149 = .ok (.getfield 167, 3) := by decide +kernel
theorem zd196_152 : decode zxm196.2.1 152 = .ok (.iadd, 1) := by decide +kernel
theorem zd196_153 : decode zxm196.2.1 153 = .ok (.ireturn, 1) := by decide +kernel
theorem zd196_154 : decode zxm196.2.1 154 = .ok (.aload_n 0, 1) := by decide +kernel
theorem zd196_155 : decode zxm196.2.1 155 = .ok (.getfield 25, 3) := by decide +kernel
theorem zd196_158 : decode zxm196.2.1 158 = .ok (.invokevirtual 423, 3) := by decide +kernel
theorem zd196_161 : decode zxm196.2.1 161 = .ok (.ireturn, 1) := by decide +kernel
theorem zd196_162 : decode zxm196.2.1 162 = .ok (.iload_n 1, 1) := by decide +kernel
theorem zd196_163 : decode zxm196.2.1 163 = .ok (.bipush 20, 2) := by decide +kernel
theorem zd196_165 : decode zxm196.2.1 165 = .ok (.bipush 25, 2) := by decide +kernel
theorem zd196_167 : decode zxm196.2.1 167 = .ok (.invokestatic 126, 3) := by decide +kernel
theorem zd196_170 : decode zxm196.2.1 170 = .ok (.ifCond .eq 32, 3) := by decide +kernel
theorem zd196_173 : decode zxm196.2.1 173 = .ok (.aload_n 0, 1) := by decide +kernel
theorem zd196_174 : decode zxm196.2.1 174 = .ok (.getfield 25, 3) := by decide +kernel
theorem zd196_177 : decode zxm196.2.1 177 = .ok (.iload_n 1, 1) := by decide +kernel
theorem zd196_178 : decode zxm196.2.1 178 = .ok (.bipush 20, 2) := by decide +kernel
theorem zd196_180 : decode zxm196.2.1 180 = .ok (.isub, 1) := by decide +kernel
theorem zd196_181 : decode zxm196.2.1 181 = .ok (.invokevirtual 323, 3) := by decide +kernel
theorem zd196_184 : decode zxm196.2.1 184 = .ok (.ifCond .eq 18, 3) := by decide +kernel
theorem zd196_187 : decode zxm196.2.1 187 = .ok (.aload_n 0, 1) := by decide +kernel
theorem zd196_188 : decode zxm196.2.1 188 = .ok (.getfield 25, 3) := by decide +kernel
theorem zd196_191 : decode zxm196.2.1 191 = .ok (.getfield 187, 3) := by decide +kernel
theorem zd196_194 : decode zxm196.2.1 194 = .ok (.iload_n 1, 1) := by decide +kernel
theorem zd196_195 : decode zxm196.2.1 195 = .ok (.bipush 20, 2) := by decide +kernel
theorem zd196_197 : decode zxm196.2.1 197 = .ok (.isub, 1) := by decide +kernel
theorem zd196_198 : decode zxm196.2.1 198 = .ok (.iaload, 1) := by decide +kernel
theorem zd196_199 : decode zxm196.2.1 199 = .ok (.goto 4, 3) := by decide +kernel
theorem zd196_202 : decode zxm196.2.1 202 = .ok (.iconst (-1), 1) := by decide +kernel
theorem zd196_203 : decode zxm196.2.1 203 = .ok (.ireturn, 1) := by decide +kernel
theorem zt_X_count {x1 : Int} {f0 : Int} {f1 : Int} {f2 : Int} {f3 : Int} {f4 : Int} {f6 : Int} {f8 : Int} {f9 : Int} {f10 : Int} {f11 : Int} {f12 : Int} {g0 : (Int → Int)} {g1 : (Int → Int)} {o : Int} (h : zf_X_count x1 f0 f1 f2 f3 f4 f6 f8 f9 f10 f11 f12 g0 g1 = some o) : zv_Fn z_TB z_cl z_KX zy_X_count zxm196 (2, 120) [.inr 0, .inl x1] [.inl f0, .inl f1, .inl f2, .inl f3, .inl f4, .inr 3, .inl f6, .inr 4, .inl f8, .inl f9, .inl f10, .inl f11, .inl f12] [g0, g1] (some o) [.inl f0, .inl f1, .inl f2, .inl f3, .inl f4, .inr 3, .inl f6, .inr 4, .inl f8, .inl f9, .inl f10, .inl f11, .inl f12] [g0, g1] := zv_meth (K := (z_KF0, z_KC0, z_KL0, z_KT0, [], [], [], none)) (FT := z_FT) (MT := z_MT) (n := 2) zxp196 (z_ks0 _ (fun _ h => List.mem_cons_of_mem _ h) _ _ _ _ (fun j r h _ => by cases h)) (fun _ _ => zs_KX_p) zyw_X_count (fun va F G h => by obtain ⟨rfl, _⟩ := h; rfl) (fun va F G h => by obtain ⟨rfl, _⟩ := h; rfl) rfl fun good va F G hB hret hvret hP => by
  obtain ⟨rfl, rfl, rfl⟩ := hP
  unfold zf_X_count at h
  refine zv_ild hB zd196_0 rfl rfl ?_
  refine zv_tsw hB zd196_1 rfl ?_
  refine ⟨fun hc1 => ⟨_, rfl, ?_⟩, fun hc1 => ?_⟩
  · replace hc1 : x1 = 0 := hc1
    rw [if_pos hc1] at h
    refine zv_ald hB zd196_60 rfl rfl rfl ?_
    refine zv_getr hB zd196_61 rfl ?_
    refine zv_getf hB zd196_64 rfl rfl (fun _ _ => ?_)
    have hw := Option.some.inj h
    subst hw
    exact hret _ _ _ _ _ zd196_67 (by trivial) ⟨rfl, rfl, rfl⟩
  replace hc1 : x1 ≠ 0 := hc1
  rw [if_neg hc1] at h
  refine ⟨fun hc2 => ⟨_, rfl, ?_⟩, fun hc2 => ?_⟩
  · replace hc2 : x1 = 1 := hc2
    rw [if_pos hc2] at h
    refine zv_ald hB zd196_68 rfl rfl rfl ?_
    refine zv_getr hB zd196_69 rfl ?_
    refine zv_getf hB zd196_72 rfl rfl (fun _ _ => ?_)
    have hw := Option.some.inj h
    subst hw
    exact hret _ _ _ _ _ zd196_75 (by trivial) ⟨rfl, rfl, rfl⟩
  replace hc2 : x1 ≠ 1 := hc2
  rw [if_neg hc2] at h
  refine ⟨fun hc3 => ⟨_, rfl, ?_⟩, fun hc3 => ?_⟩
  · replace hc3 : x1 = 2 := hc3
    rw [if_pos hc3] at h
    refine zv_ald hB zd196_76 rfl rfl rfl ?_
    refine zv_getr hB zd196_77 rfl ?_
    refine zv_getf hB zd196_80 rfl rfl (fun _ _ => ?_)
    have hw := Option.some.inj h
    subst hw
    exact hret _ _ _ _ _ zd196_83 (by trivial) ⟨rfl, rfl, rfl⟩
  replace hc3 : x1 ≠ 2 := hc3
  rw [if_neg hc3] at h
  refine ⟨fun hc4 => ⟨_, rfl, ?_⟩, fun hc4 => ?_⟩
  · replace hc4 : x1 = 3 := hc4
    rw [if_pos hc4] at h
    refine zv_ald hB zd196_84 rfl rfl rfl ?_
    refine zv_getr hB zd196_85 rfl ?_
    refine zv_getf hB zd196_88 rfl rfl (fun _ _ => ?_)
    obtain ⟨r5, hr5, h⟩ := zi_bind h
    refine zv_cs hB (zv_emq (va2 := [.inl f3]) (F := [.inl f0, .inl f1, .inl f2, .inl f3, .inl f4, .inr 3, .inl f6, .inr 4, .inl f8, .inl f9, .inl f10, .inl f11, .inl f12]) (F' := [.inl f0, .inl f1, .inl f2, .inl f3, .inl f4, .inr 3, .inl f6, .inr 4, .inl f8, .inl f9, .inl f10, .inl f11, .inl f12]) (G := [g0, g1]) (G' := [g0, g1]) (ρ := []) (φ := []) (ψ := []) [none, none, none, none, none, none, none, none, none, none, none, none, none] [none, none] zyw_Integer_bitCount zyw_X_count zye_X_count (by decide +kernel) (zt_Integer_bitCount hr5) trivial trivial rfl rfl rfl rfl rfl rfl rfl) zd196_91 zxt102 rfl (by decide) (by decide) rfl ?_
    have hw := Option.some.inj h
    subst hw
    exact hret _ _ _ _ _ zd196_94 (by trivial) ⟨rfl, rfl, rfl⟩
  replace hc4 : x1 ≠ 3 := hc4
  rw [if_neg hc4] at h
  refine ⟨fun hc6 => ⟨_, rfl, ?_⟩, fun hc6 => ?_⟩
  · replace hc6 : x1 = 4 := hc6
    rw [if_pos hc6] at h
    refine zv_ald hB zd196_95 rfl rfl rfl ?_
    refine zv_getr hB zd196_96 rfl ?_
    refine zv_getf hB zd196_99 rfl rfl (fun _ _ => ?_)
    have hw := Option.some.inj h
    subst hw
    exact hret _ _ _ _ _ zd196_102 (by trivial) ⟨rfl, rfl, rfl⟩
  replace hc6 : x1 ≠ 4 := hc6
  rw [if_neg hc6] at h
  refine ⟨fun hc7 => ⟨_, rfl, ?_⟩, fun hc7 => ?_⟩
  · replace hc7 : x1 = 5 := hc7
    rw [if_pos hc7] at h
    refine zv_ald hB zd196_103 rfl rfl rfl ?_
    refine zv_getq hB zd196_104 rfl rfl rfl ?_
    refine zv_getf hB zd196_107 rfl rfl (fun _ _ => ?_)
    have hw := Option.some.inj h
    subst hw
    exact hret _ _ _ _ _ zd196_110 (by trivial) ⟨rfl, rfl, rfl⟩
  replace hc7 : x1 ≠ 5 := hc7
  rw [if_neg hc7] at h
  refine ⟨fun hc8 => ⟨_, rfl, ?_⟩, fun hc8 => ?_⟩
  · replace hc8 : x1 = 6 := hc8
    rw [if_pos hc8] at h
    refine zv_ald hB zd196_111 rfl rfl rfl ?_
    refine zv_getq hB zd196_112 rfl rfl rfl ?_
    refine zv_getf hB zd196_115 rfl rfl (fun _ _ => ?_)
    have hw := Option.some.inj h
    subst hw
    exact hret _ _ _ _ _ zd196_118 (by trivial) ⟨rfl, rfl, rfl⟩
  replace hc8 : x1 ≠ 6 := hc8
  rw [if_neg hc8] at h
  refine ⟨fun hc9 => ⟨_, rfl, ?_⟩, fun hc9 => ?_⟩
  · replace hc9 : x1 = 7 := hc9
    rw [if_pos hc9] at h
    refine zv_ald hB zd196_119 rfl rfl rfl ?_
    refine zv_getr hB zd196_120 rfl ?_
    refine zv_getf hB zd196_123 rfl rfl (fun _ _ => ?_)
    have hw := Option.some.inj h
    subst hw
    exact hret _ _ _ _ _ zd196_126 (by trivial) ⟨rfl, rfl, rfl⟩
  replace hc9 : x1 ≠ 7 := hc9
  rw [if_neg hc9] at h
  refine ⟨fun hc10 => ⟨_, rfl, ?_⟩, fun hc10 => ?_⟩
  · replace hc10 : x1 = 8 := hc10
    rw [if_pos hc10] at h
    refine zv_ald hB zd196_127 rfl rfl rfl ?_
    refine zv_getr hB zd196_128 rfl ?_
    refine zv_getf hB zd196_131 rfl rfl (fun _ _ => ?_)
    have hw := Option.some.inj h
    subst hw
    exact hret _ _ _ _ _ zd196_134 (by trivial) ⟨rfl, rfl, rfl⟩
  replace hc10 : x1 ≠ 8 := hc10
  rw [if_neg hc10] at h
  refine ⟨fun hc11 => ⟨_, rfl, ?_⟩, fun hc11 => ?_⟩
  · replace hc11 : x1 = 9 := hc11
    rw [if_pos hc11] at h
    refine zv_con hB zd196_135 rfl ?_
    refine zv_ald hB zd196_137 rfl rfl rfl ?_
    refine zv_getr hB zd196_138 rfl ?_
    refine zv_getf hB zd196_141 rfl rfl (fun _ _ => ?_)
    refine zv_mulw hB zd196_144 ?_
    refine zv_ald hB zd196_145 rfl rfl rfl ?_
    refine zv_getr hB zd196_146 rfl ?_
    refine zv_getf hB zd196_149 rfl rfl (fun _ _ => ?_)
    refine zv_addw hB zd196_152 ?_
    have hw := Option.some.inj h
    subst hw
    exact hret _ _ _ _ _ zd196_153 (by trivial) ⟨rfl, rfl, rfl⟩
  replace hc11 : x1 ≠ 9 := hc11
  rw [if_neg hc11] at h
  refine ⟨fun hc12 => ⟨_, rfl, ?_⟩, fun hc12 => ?_⟩
  · replace hc12 : x1 = 10 := hc12
    rw [if_pos hc12] at h
    refine zv_ald hB zd196_154 rfl rfl rfl ?_
    refine zv_getr hB zd196_155 rfl ?_
    obtain ⟨r13, hr13, h⟩ := zi_bind h
    refine zv_cv hB (zv_emq (va2 := [.inr 2]) (F := [.inl f0, .inl f1, .inl f2, .inl f3, .inl f4, .inr 3, .inl f6, .inr 4, .inl f8, .inl f9, .inl f10, .inl f11, .inl f12]) (F' := [.inl f0, .inl f1, .inl f2, .inl f3, .inl f4, .inr 3, .inl f6, .inr 4, .inl f8, .inl f9, .inl f10, .inl f11, .inl f12]) (G := [g0, g1]) (G' := [g0, g1]) (ρ := [2, 6]) (φ := []) (ψ := [0]) [none, none, none, none, none, none, none, none, none, none, none, none, none] [some 0, none] zyw_Sea_countLand zyw_X_count zye_X_count (by decide +kernel) (zt_Sea_countLand hr13) trivial ⟨rfl, trivial⟩ rfl rfl rfl rfl rfl rfl rfl) zd196_158 zxt197 rfl (by decide) (by decide) rfl ?_
    have hw := Option.some.inj h
    subst hw
    exact hret _ _ _ _ _ zd196_161 (by trivial) ⟨rfl, rfl, rfl⟩
  replace hc12 : x1 ≠ 10 := hc12
  rw [if_neg hc12] at h
  refine ⟨_, rfl, ?_⟩
  refine zv_ild hB zd196_162 rfl rfl ?_
  refine zv_con hB zd196_163 rfl ?_
  refine zv_con hB zd196_165 rfl ?_
  obtain ⟨r14, hr14, h⟩ := zi_bind h
  refine zv_cs hB (zv_emq (va2 := [.inl x1, .inl 20, .inl 25]) (F := [.inl f0, .inl f1, .inl f2, .inl f3, .inl f4, .inr 3, .inl f6, .inr 4, .inl f8, .inl f9, .inl f10, .inl f11, .inl f12]) (F' := [.inl f0, .inl f1, .inl f2, .inl f3, .inl f4, .inr 3, .inl f6, .inr 4, .inl f8, .inl f9, .inl f10, .inl f11, .inl f12]) (G := [g0, g1]) (G' := [g0, g1]) (ρ := []) (φ := []) (ψ := []) [none, none, none, none, none, none, none, none, none, none, none, none, none] [none, none] zyw_X_isWithin zyw_X_count zye_X_count (by decide +kernel) (zt_X_isWithin hr14) trivial trivial rfl rfl rfl rfl rfl rfl rfl) zd196_167 zxt15 rfl (by decide) (by decide) rfl ?_
  refine zv_zeq hB zd196_170 rfl (fun hc15 => ?_) (fun hc15 => ?_)
  · rw [if_pos hc15] at h
    refine zv_con hB zd196_202 rfl ?_
    have hw := Option.some.inj h
    subst hw
    exact hret _ _ _ _ _ zd196_203 (by trivial) ⟨rfl, rfl, rfl⟩
  · rw [if_neg hc15] at h
    refine zv_ald hB zd196_173 rfl rfl rfl ?_
    refine zv_getr hB zd196_174 rfl ?_
    refine zv_ild hB zd196_177 rfl rfl ?_
    refine zv_con hB zd196_178 rfl ?_
    refine zv_subw hB zd196_180 ?_
    obtain ⟨r16, hr16, h⟩ := zi_bind h
    refine zv_cv hB (zv_emq (va2 := [.inr 2, .inl (zi_w (x1 - 20))]) (F := [.inl f0, .inl f1, .inl f2, .inl f3, .inl f4, .inr 3, .inl f6, .inr 4, .inl f8, .inl f9, .inl f10, .inl f11, .inl f12]) (F' := [.inl f0, .inl f1, .inl f2, .inl f3, .inl f4, .inr 3, .inl f6, .inr 4, .inl f8, .inl f9, .inl f10, .inl f11, .inl f12]) (G := [g0, g1]) (G' := [g0, g1]) (ρ := [2]) (φ := [4]) (ψ := []) [none, none, none, none, some 0, none, none, none, none, none, none, none, none] [none, none] zyw_Sea_hasShip zyw_X_count zye_X_count (by decide +kernel) (zt_Sea_hasShip hr16) ⟨⟨_, rfl, fun _ => rfl⟩, trivial⟩ trivial rfl rfl rfl rfl rfl rfl rfl) zd196_181 zxt26 rfl (by decide) (by decide) rfl ?_
    refine zv_zeq hB zd196_184 rfl (fun hc17 => ?_) (fun hc17 => ?_)
    · rw [if_pos hc17] at h
      refine zv_con hB zd196_202 rfl ?_
      have hw := Option.some.inj h
      subst hw
      exact hret _ _ _ _ _ zd196_203 (by trivial) ⟨rfl, rfl, rfl⟩
    · rw [if_neg hc17] at h
      refine zv_ald hB zd196_187 rfl rfl rfl ?_
      refine zv_getr hB zd196_188 rfl ?_
      refine zv_getr hB zd196_191 rfl ?_
      refine zv_ild hB zd196_194 rfl rfl ?_
      refine zv_con hB zd196_195 rfl ?_
      refine zv_subw hB zd196_197 ?_
      obtain ⟨c18, h⟩ := zi_if h
      refine zv_iald hB zd196_198 rfl rfl (zi_ix_ok c18).1 (zi_ix_ok c18).2 (fun _ _ => ?_)
      refine zv_goto hB zd196_199 rfl ?_
      have hw := Option.some.inj h
      subst hw
      exact hret _ _ _ _ _ zd196_203 (by trivial) ⟨rfl, rfl, rfl⟩
/-! M_in (III)Z -/
-- names: 
-- fields: ; arrays: ; out: [('ret', None)]
abbrev zy_M_in : zNL := (0, [], [], [], [])
theorem zyw_M_in : zv_wf zy_M_in = true := by decide +kernel
theorem zye_M_in : zv_ek2 zy_M_in = true := by decide +kernel
def zf_M_in (x0 : Int) (x1 : Int) (x2 : Int) : Option (Int) := if x0 < x1 then (some 0) else (if x2 < x0 then (some 0) else (some 1))
theorem zd200_0 : decode zxm200.2.1 0 = .ok (.iload_n 0, 1) := by decide +kernel
theorem zd200_1 : decode zxm200.2.1 1 = .ok (.iload_n 1, 1) := by decide +kernel
theorem zd200_2 : decode zxm200.2.1 2 = .ok (.if_icmp .lt 12, 3) := by decide +kernel
theorem zd200_5 : decode zxm200.2.1 5 = .ok (.iload_n 0, 1) := by decide +kernel
theorem zd200_6 : decode zxm200.2.1 6 = .ok (.iload_n 2, 1) := by decide +kernel
theorem zd200_7 : decode zxm200.2.1 7 = .ok (.if_icmp .gt 7, 3) := by decide +kernel
theorem zd200_10 : decode zxm200.2.1 10 = .ok (.iconst 1, 1) := by decide +kernel
theorem zd200_11 : decode zxm200.2.1 11 = .ok (.goto 4, 3) := by decide +kernel
theorem zd200_14 : decode zxm200.2.1 14 = .ok (.iconst 0, 1) := by decide +kernel
theorem zd200_15 : decode zxm200.2.1 15 = .ok (.ireturn, 1) := by decide +kernel
theorem zt_M_in {x0 : Int} {x1 : Int} {x2 : Int} {o : Int} (h : zf_M_in x0 x1 x2 = some o) : zv_Fn z_TB z_cl z_KX zy_M_in zxm200 (0, 0) [.inl x0, .inl x1, .inl x2] [] [] (some o) [] [] := zv_meth (K := (z_KF13, z_KC13, z_KL13, z_KT13, [], [], [], none)) (FT := z_FT) (MT := z_MT) (n := 3) zxp200 (z_ks13 _ (fun _ h => List.mem_cons_of_mem _ h) _ _ _ _ (fun j r h _ => by cases h)) (fun _ _ => zs_KX_p) zyw_M_in (fun va F G h => by obtain ⟨rfl, _⟩ := h; rfl) (fun va F G h => by obtain ⟨rfl, _⟩ := h; rfl) rfl fun good va F G hB hret hvret hP => by
  obtain ⟨rfl, rfl, rfl⟩ := hP
  unfold zf_M_in at h
  refine zv_ild hB zd200_0 rfl rfl ?_
  refine zv_ild hB zd200_1 rfl rfl ?_
  refine zv_clt hB zd200_2 rfl (fun hc1 => ?_) (fun hc1 => ?_)
  · rw [if_pos hc1] at h
    refine zv_con hB zd200_14 rfl ?_
    have hw := Option.some.inj h
    subst hw
    exact hret _ _ _ _ _ zd200_15 (by constructor <;> decide) ⟨rfl, rfl, rfl⟩
  · rw [if_neg (Int.not_lt.mpr hc1)] at h
    refine zv_ild hB zd200_5 rfl rfl ?_
    refine zv_ild hB zd200_6 rfl rfl ?_
    refine zv_cgt hB zd200_7 rfl (fun hc2 => ?_) (fun hc2 => ?_)
    · rw [if_pos hc2] at h
      refine zv_con hB zd200_14 rfl ?_
      have hw := Option.some.inj h
      subst hw
      exact hret _ _ _ _ _ zd200_15 (by constructor <;> decide) ⟨rfl, rfl, rfl⟩
    · rw [if_neg (Int.not_lt.mpr hc2)] at h
      refine zv_con hB zd200_10 rfl ?_
      refine zv_goto hB zd200_11 rfl ?_
      have hw := Option.some.inj h
      subst hw
      exact hret _ _ _ _ _ zd200_15 (by constructor <;> decide) ⟨rfl, rfl, rfl⟩
/-! M_isPlace (II)Z -/
-- names: 
-- fields: ; arrays: ; out: [('ret', None)]
abbrev zy_M_isPlace : zNL := (0, [], [], [], [])
theorem zyw_M_isPlace : zv_wf zy_M_isPlace = true := by decide +kernel
theorem zye_M_isPlace : zv_ek2 zy_M_isPlace = true := by decide +kernel
def zf_M_isPlace (x0 : Int) (x1 : Int) : Option (Int) := if x0 < 0 then (some 0) else (if x0 < 24 then (if x1 < 0 then (some 0) else (if x1 < 12 then (some 1) else (some 0))) else (some 0))
theorem zd201_0 : decode zxm201.2.1 0 = .ok (.iload_n 0, 1) := by decide +kernel
theorem zd201_1 : decode zxm201.2.1 1 = .ok (.ifCond .lt 23, 3) := by decide +kernel
theorem zd201_4 : decode zxm201.2.1 4 = .ok (.iload_n 0, 1) := by decide +kernel
theorem zd201_5 : decode zxm201.2.1 5 = .ok (.bipush 24, 2) := by decide +kernel
theorem zd201_7 : decode zxm201.2.1 7 = .ok (.if_icmp .ge 17, 3) := by decide +kernel
theorem zd201_10 : decode zxm201.2.1 10 = .ok (.iload_n 1, 1) := by decide +kernel
theorem zd201_11 : decode zxm201.2.1 11 = .ok (.ifCond .lt 13, 3) := by decide +kernel
theorem zd201_14 : decode zxm201.2.1 14 = .ok (.iload_n 1, 1) := by decide +kernel
theorem zd201_15 : decode zxm201.2.1 15 = .ok (.bipush 12, 2) := by decide +kernel
theorem zd201_17 : decode zxm201.2.1 17 = .ok (.if_icmp .ge 7, 3) := by decide +kernel
theorem zd201_20 : decode zxm201.2.1 20 = .ok (.iconst 1, 1) := by decide +kernel
theorem zd201_21 : decode zxm201.2.1 21 = .ok (.goto 4, 3) := by decide +kernel
theorem zd201_24 : decode zxm201.2.1 24 = .ok (.iconst 0, 1) := by decide +kernel
theorem zd201_25 : decode zxm201.2.1 25 = .ok (.ireturn, 1) := by decide +kernel
theorem zt_M_isPlace {x0 : Int} {x1 : Int} {o : Int} (h : zf_M_isPlace x0 x1 = some o) : zv_Fn z_TB z_cl z_KX zy_M_isPlace zxm201 (0, 0) [.inl x0, .inl x1] [] [] (some o) [] [] := zv_meth (K := (z_KF13, z_KC13, z_KL13, z_KT13, [], [], [], none)) (FT := z_FT) (MT := z_MT) (n := 2) zxp201 (z_ks13 _ (fun _ h => List.mem_cons_of_mem _ h) _ _ _ _ (fun j r h _ => by cases h)) (fun _ _ => zs_KX_p) zyw_M_isPlace (fun va F G h => by obtain ⟨rfl, _⟩ := h; rfl) (fun va F G h => by obtain ⟨rfl, _⟩ := h; rfl) rfl fun good va F G hB hret hvret hP => by
  obtain ⟨rfl, rfl, rfl⟩ := hP
  unfold zf_M_isPlace at h
  refine zv_ild hB zd201_0 rfl rfl ?_
  refine zv_zlt hB zd201_1 rfl (fun hc1 => ?_) (fun hc1 => ?_)
  · rw [if_pos hc1] at h
    refine zv_con hB zd201_24 rfl ?_
    have hw := Option.some.inj h
    subst hw
    exact hret _ _ _ _ _ zd201_25 (by constructor <;> decide) ⟨rfl, rfl, rfl⟩
  · rw [if_neg (Int.not_lt.mpr hc1)] at h
    refine zv_ild hB zd201_4 rfl rfl ?_
    refine zv_con hB zd201_5 rfl ?_
    refine zv_cge hB zd201_7 rfl (fun hc2 => ?_) (fun hc2 => ?_)
    · rw [if_neg (Int.not_lt.mpr hc2)] at h
      refine zv_con hB zd201_24 rfl ?_
      have hw := Option.some.inj h
      subst hw
      exact hret _ _ _ _ _ zd201_25 (by constructor <;> decide) ⟨rfl, rfl, rfl⟩
    · rw [if_pos hc2] at h
      refine zv_ild hB zd201_10 rfl rfl ?_
      refine zv_zlt hB zd201_11 rfl (fun hc3 => ?_) (fun hc3 => ?_)
      · rw [if_pos hc3] at h
        refine zv_con hB zd201_24 rfl ?_
        have hw := Option.some.inj h
        subst hw
        exact hret _ _ _ _ _ zd201_25 (by constructor <;> decide) ⟨rfl, rfl, rfl⟩
      · rw [if_neg (Int.not_lt.mpr hc3)] at h
        refine zv_ild hB zd201_14 rfl rfl ?_
        refine zv_con hB zd201_15 rfl ?_
        refine zv_cge hB zd201_17 rfl (fun hc4 => ?_) (fun hc4 => ?_)
        · rw [if_neg (Int.not_lt.mpr hc4)] at h
          refine zv_con hB zd201_24 rfl ?_
          have hw := Option.some.inj h
          subst hw
          exact hret _ _ _ _ _ zd201_25 (by constructor <;> decide) ⟨rfl, rfl, rfl⟩
        · rw [if_pos hc4] at h
          refine zv_con hB zd201_20 rfl ?_
          refine zv_goto hB zd201_21 rfl ?_
          have hw := Option.some.inj h
          subst hw
          exact hret _ _ _ _ _ zd201_25 (by constructor <;> decide) ⟨rfl, rfl, rfl⟩
/-! M_star (IIII)Z -/
-- names: 0 StarTalesModel('arg', 0), 1 (0, 422)(0, 12, 0)
-- fields: ; arrays: g0 = 1; out: [('ret', None), ('g', 0)]
abbrev zy_M_star : zNL := (2, [(0, 12)], [], [(0, 12, 0, 1)], [(1, 0, 422, 0)])
theorem zyw_M_star : zv_wf zy_M_star = true := by decide +kernel
theorem zye_M_star : zv_ek2 zy_M_star = true := by decide +kernel
def zf_M_star (x1 : Int) (x2 : Int) (x3 : Int) (x4 : Int) (g0 : (Int → Int)) : Option (Int × (Int → Int)) := (zf_M_in x1 0 23).bind fun r1 => (if r1 = 0 then (some (0, g0)) else ((zf_M_isPlace x2 x3).bind fun r3 => (if r3 = 0 then (some (0, g0)) else ((zf_M_in x4 1 9).bind fun r5 => (if r5 = 0 then (some (0, g0)) else (cond (zi_ix (zi_w (0 + x1)) 422) (cond (zi_ix (zi_w (24 + x1)) 422) (cond (zi_ix (zi_w (48 + x1)) 422) (cond (zi_ix (zi_w (72 + x1)) 422) (cond (zi_ix (zi_w (96 + x1)) 422) (some (1, (zv_up (zv_up (zv_up (zv_up (zv_up (zv_up g0 126 (zi_or (g0 126) (zi_shl 1 x1))) (zi_w (0 + x1)) x2) (zi_w (24 + x1)) x3) (zi_w (48 + x1)) x4) (zi_w (72 + x1)) 0) (zi_w (96 + x1)) 0))) none) none) none) none) none))))))
theorem zd199_0 : decode zxm199.2.1 0 = .ok (.iload_n 1, 1) := by decide +kernel
theorem zd199_1 : decode zxm199.2.1 1 = .ok (.iconst 0, 1) := by decide +kernel
theorem zd199_2 : decode zxm199.2.1 2 = .ok (.bipush 23, 2) := by decide +kernel
theorem zd199_4 : decode zxm199.2.1 4 = .ok (.invokestatic 150, 3) := by decide +kernel
theorem zd199_7 : decode zxm199.2.1 7 = .ok (.ifCond .eq 22, 3) := by decide +kernel
theorem zd199_10 : decode zxm199.2.1 10 = .ok (.iload_n 2, 1) := by decide +kernel
theorem zd199_11 : decode zxm199.2.1 11 = .ok (.iload_n 3, 1) := by decide +kernel
theorem zd199_12 : decode zxm199.2.1 12 = .ok (.invokestatic 154, 3) := by decide +kernel
theorem zd199_15 : decode zxm199.2.1 15 = .ok (.ifCond .eq 14, 3) := by decide +kernel
theorem zd199_18 : decode zxm199.2.1 18 = .ok (.iload 4, 2) := by decide +kernel
theorem zd199_20 : decode zxm199.2.1 20 = .ok (.iconst 1, 1) := by decide +kernel
theorem zd199_21 : decode zxm199.2.1 21 = .ok (.bipush 9, 2) := by decide +kernel
theorem zd199_23 : decode zxm199.2.1 23 = .ok (.invokestatic 150, 3) := by decide +kernel
theorem zd199_26 : decode zxm199.2.1 26 = .ok (.ifCond .ne 5, 3) := by decide +kernel
theorem zd199_29 : decode zxm199.2.1 29 = .ok (.iconst 0, 1) := by decide +kernel
theorem zd199_30 : decode zxm199.2.1 30 = .ok (.ireturn, 1) := by decide +kernel
theorem zd199_31 : decode zxm199.2.1 31 = .ok (.aload_n 0, 1) := by decide +kernel
theorem zd199_32 : decode zxm199.2.1 32 = .ok (.getfield 7, 3) := by decide +kernel
theorem zd199_35 : decode zxm199.2.1 35 = .ok (.bipush 126, 2) := by decide +kernel
theorem zd199_37 : decode zxm199.2.1 37 = .ok (.aload_n 0, 1) := by decide +kernel
theorem zd199_38 : decode zxm199.2.1 38 = .ok (.getfield 7, 3) := by decide +kernel
theorem zd199_41 : decode zxm199.2.1 41 = .ok (.bipush 126, 2) := by decide +kernel
theorem zd199_43 : decode zxm199.2.1 43 = .ok (.iaload, 1) := by decide +kernel
theorem zd199_44 : decode zxm199.2.1 44 = .ok (.iconst 1, 1) := by decide +kernel
theorem zd199_45 : decode zxm199.2.1 45 = .ok (.iload_n 1, 1) := by decide +kernel
theorem zd199_46 : decode zxm199.2.1 46 = .ok (.ishl, 1) := by decide +kernel
theorem zd199_47 : decode zxm199.2.1 47 = .ok (.ior, 1) := by decide +kernel
theorem zd199_48 : decode zxm199.2.1 48 = .ok (.iastore, 1) := by decide +kernel
theorem zd199_49 : decode zxm199.2.1 49 = .ok (.aload_n 0, 1) := by decide +kernel
theorem zd199_50 : decode zxm199.2.1 50 = .ok (.getfield 7, 3) := by decide +kernel
theorem zd199_53 : decode zxm199.2.1 53 = .ok (.iconst 0, 1) := by decide +kernel
theorem zd199_54 : decode zxm199.2.1 54 = .ok (.iload_n 1, 1) := by decide +kernel
theorem zd199_55 : decode zxm199.2.1 55 = .ok (.iadd, 1) := by decide +kernel
theorem zd199_56 : decode zxm199.2.1 56 = .ok (.iload_n 2, 1) := by decide +kernel
theorem zd199_57 : decode zxm199.2.1 57 = .ok (.iastore, 1) := by decide +kernel
theorem zd199_58 : decode zxm199.2.1 58 = .ok (.aload_n 0, 1) := by decide +kernel
theorem zd199_59 : decode zxm199.2.1 59 = .ok (.getfield 7, 3) := by decide +kernel
theorem zd199_62 : decode zxm199.2.1 62 = .ok (.bipush 24, 2) := by decide +kernel
theorem zd199_64 : decode zxm199.2.1 64 = .ok (.iload_n 1, 1) := by decide +kernel
theorem zd199_65 : decode zxm199.2.1 65 = .ok (.iadd, 1) := by decide +kernel
theorem zd199_66 : decode zxm199.2.1 66 = .ok (.iload_n 3, 1) := by decide +kernel
theorem zd199_67 : decode zxm199.2.1 67 = .ok (.iastore, 1) := by decide +kernel
theorem zd199_68 : decode zxm199.2.1 68 = .ok (.aload_n 0, 1) := by decide +kernel
theorem zd199_69 : decode zxm199.2.1 69 = .ok (.getfield 7, 3) := by decide +kernel
theorem zd199_72 : decode zxm199.2.1 72 = .ok (.bipush 48, 2) := by decide +kernel
theorem zd199_74 : decode zxm199.2.1 74 = .ok (.iload_n 1, 1) := by decide +kernel
theorem zd199_75 : decode zxm199.2.1 75 = .ok (.iadd, 1) := by decide +kernel
theorem zd199_76 : decode zxm199.2.1 76 = .ok (.iload 4, 2) := by decide +kernel
theorem zd199_78 : decode zxm199.2.1 78 = .ok (.iastore, 1) := by decide +kernel
theorem zd199_79 : decode zxm199.2.1 79 = .ok (.aload_n 0, 1) := by decide +kernel
theorem zd199_80 : decode zxm199.2.1 80 = .ok (.getfield 7, 3) := by decide +kernel
theorem zd199_83 : decode zxm199.2.1 83 = .ok (.bipush 72, 2) := by decide +kernel
theorem zd199_85 : decode zxm199.2.1 85 = .ok (.iload_n 1, 1) := by decide +kernel
theorem zd199_86 : decode zxm199.2.1 86 = .ok (.iadd, 1) := by decide +kernel
theorem zd199_87 : decode zxm199.2.1 87 = .ok (.iconst 0, 1) := by decide +kernel
theorem zd199_88 : decode zxm199.2.1 88 = .ok (.iastore, 1) := by decide +kernel
theorem zd199_89 : decode zxm199.2.1 89 = .ok (.aload_n 0, 1) := by decide +kernel
theorem zd199_90 : decode zxm199.2.1 90 = .ok (.getfield 7, 3) := by decide +kernel
theorem zd199_93 : decode zxm199.2.1 93 = .ok (.bipush 96, 2) := by decide +kernel
theorem zd199_95 : decode zxm199.2.1 95 = .ok (.iload_n 1, 1) := by decide +kernel
theorem zd199_96 : decode zxm199.2.1 96 = .ok (.iadd, 1) := by decide +kernel
theorem zd199_97 : decode zxm199.2.1 97 = .ok (.iconst 0, 1) := by decide +kernel
theorem zd199_98 : decode zxm199.2.1 98 = .ok (.iastore, 1) := by decide +kernel
theorem zd199_99 : decode zxm199.2.1 99 = .ok (.iconst 1, 1) := by decide +kernel
theorem zd199_100 : decode zxm199.2.1 100 = .ok (.ireturn, 1) := by decide +kernel
theorem zt_M_star {x1 : Int} {x2 : Int} {x3 : Int} {x4 : Int} {g0 : (Int → Int)} {o : Int × (Int → Int)} (h : zf_M_star x1 x2 x3 x4 g0 = some o) : zv_Fn z_TB z_cl z_KX zy_M_star zxm199 (1, 60) [.inr 0, .inl x1, .inl x2, .inl x3, .inl x4] [] [g0] (some o.1) [] [o.2] := zv_meth (K := (z_KF13, z_KC13, z_KL13, z_KT13, [], [], [], none)) (FT := z_FT) (MT := z_MT) (n := 5) zxp199 (z_ks13 _ (fun _ h => List.mem_cons_of_mem _ h) _ _ _ _ (fun j r h _ => by cases h)) (fun _ _ => zs_KX_p) zyw_M_star (fun va F G h => by obtain ⟨rfl, _⟩ := h; rfl) (fun va F G h => by obtain ⟨rfl, _⟩ := h; rfl) rfl fun good va F G hB hret hvret hP => by
  obtain ⟨rfl, rfl, rfl⟩ := hP
  unfold zf_M_star at h
  refine zv_ild hB zd199_0 rfl rfl ?_
  refine zv_con hB zd199_1 rfl ?_
  refine zv_con hB zd199_2 rfl ?_
  obtain ⟨r1, hr1, h⟩ := zi_bind h
  refine zv_cs hB (zv_emq (va2 := [.inl x1, .inl 0, .inl 23]) (F := []) (F' := []) (G := [g0]) (G' := [g0]) (ρ := []) (φ := []) (ψ := []) [] [none] zyw_M_in zyw_M_star zye_M_star (by decide +kernel) (zt_M_in hr1) trivial trivial rfl rfl rfl rfl rfl rfl rfl) zd199_4 zxt200 rfl (by decide) (by decide) rfl ?_
  refine zv_zeq hB zd199_7 rfl (fun hc2 => ?_) (fun hc2 => ?_)
  · rw [if_pos hc2] at h
    refine zv_con hB zd199_29 rfl ?_
    have hw := Option.some.inj h
    subst hw
    exact hret _ _ _ _ _ zd199_30 (by constructor <;> decide) ⟨rfl, rfl, rfl⟩
  · rw [if_neg hc2] at h
    refine zv_ild hB zd199_10 rfl rfl ?_
    refine zv_ild hB zd199_11 rfl rfl ?_
    obtain ⟨r3, hr3, h⟩ := zi_bind h
    refine zv_cs hB (zv_emq (va2 := [.inl x2, .inl x3]) (F := []) (F' := []) (G := [g0]) (G' := [g0]) (ρ := []) (φ := []) (ψ := []) [] [none] zyw_M_isPlace zyw_M_star zye_M_star (by decide +kernel) (zt_M_isPlace hr3) trivial trivial rfl rfl rfl rfl rfl rfl rfl) zd199_12 zxt201 rfl (by decide) (by decide) rfl ?_
    refine zv_zeq hB zd199_15 rfl (fun hc4 => ?_) (fun hc4 => ?_)
    · rw [if_pos hc4] at h
      refine zv_con hB zd199_29 rfl ?_
      have hw := Option.some.inj h
      subst hw
      exact hret _ _ _ _ _ zd199_30 (by constructor <;> decide) ⟨rfl, rfl, rfl⟩
    · rw [if_neg hc4] at h
      refine zv_ild hB zd199_18 rfl rfl ?_
      refine zv_con hB zd199_20 rfl ?_
      refine zv_con hB zd199_21 rfl ?_
      obtain ⟨r5, hr5, h⟩ := zi_bind h
      refine zv_cs hB (zv_emq (va2 := [.inl x4, .inl 1, .inl 9]) (F := []) (F' := []) (G := [g0]) (G' := [g0]) (ρ := []) (φ := []) (ψ := []) [] [none] zyw_M_in zyw_M_star zye_M_star (by decide +kernel) (zt_M_in hr5) trivial trivial rfl rfl rfl rfl rfl rfl rfl) zd199_23 zxt200 rfl (by decide) (by decide) rfl ?_
      refine zv_zne hB zd199_26 rfl (fun hc6 => ?_) (fun hc6 => ?_)
      · rw [if_neg hc6] at h
        refine zv_ald hB zd199_31 rfl rfl rfl ?_
        refine zv_getr hB zd199_32 rfl ?_
        refine zv_con hB zd199_35 rfl ?_
        refine zv_ald hB zd199_37 rfl rfl rfl ?_
        refine zv_getr hB zd199_38 rfl ?_
        refine zv_con hB zd199_41 rfl ?_
        refine zv_iald hB zd199_43 rfl rfl (by decide) (by decide) (fun _ _ => ?_)
        refine zv_con hB zd199_44 rfl ?_
        refine zv_ild hB zd199_45 rfl rfl ?_
        refine zv_shlw hB zd199_46 ?_
        refine zv_orw hB zd199_47 ?_
        refine zv_iast hB zd199_48 rfl rfl (by decide) (by decide) ?_
        refine zv_ald hB zd199_49 rfl rfl rfl ?_
        refine zv_getr hB zd199_50 rfl ?_
        refine zv_con hB zd199_53 rfl ?_
        refine zv_ild hB zd199_54 rfl rfl ?_
        refine zv_addw hB zd199_55 ?_
        refine zv_ild hB zd199_56 rfl rfl ?_
        obtain ⟨c7, h⟩ := zi_if h
        refine zv_iast hB zd199_57 rfl rfl (zi_ix_ok c7).1 (zi_ix_ok c7).2 ?_
        refine zv_ald hB zd199_58 rfl rfl rfl ?_
        refine zv_getr hB zd199_59 rfl ?_
        refine zv_con hB zd199_62 rfl ?_
        refine zv_ild hB zd199_64 rfl rfl ?_
        refine zv_addw hB zd199_65 ?_
        refine zv_ild hB zd199_66 rfl rfl ?_
        obtain ⟨c8, h⟩ := zi_if h
        refine zv_iast hB zd199_67 rfl rfl (zi_ix_ok c8).1 (zi_ix_ok c8).2 ?_
        refine zv_ald hB zd199_68 rfl rfl rfl ?_
        refine zv_getr hB zd199_69 rfl ?_
        refine zv_con hB zd199_72 rfl ?_
        refine zv_ild hB zd199_74 rfl rfl ?_
        refine zv_addw hB zd199_75 ?_
        refine zv_ild hB zd199_76 rfl rfl ?_
        obtain ⟨c9, h⟩ := zi_if h
        refine zv_iast hB zd199_78 rfl rfl (zi_ix_ok c9).1 (zi_ix_ok c9).2 ?_
        refine zv_ald hB zd199_79 rfl rfl rfl ?_
        refine zv_getr hB zd199_80 rfl ?_
        refine zv_con hB zd199_83 rfl ?_
        refine zv_ild hB zd199_85 rfl rfl ?_
        refine zv_addw hB zd199_86 ?_
        refine zv_con hB zd199_87 rfl ?_
        obtain ⟨c10, h⟩ := zi_if h
        refine zv_iast hB zd199_88 rfl rfl (zi_ix_ok c10).1 (zi_ix_ok c10).2 ?_
        refine zv_ald hB zd199_89 rfl rfl rfl ?_
        refine zv_getr hB zd199_90 rfl ?_
        refine zv_con hB zd199_93 rfl ?_
        refine zv_ild hB zd199_95 rfl rfl ?_
        refine zv_addw hB zd199_96 ?_
        refine zv_con hB zd199_97 rfl ?_
        obtain ⟨c11, h⟩ := zi_if h
        refine zv_iast hB zd199_98 rfl rfl (zi_ix_ok c11).1 (zi_ix_ok c11).2 ?_
        refine zv_con hB zd199_99 rfl ?_
        have hw := Option.some.inj h
        subst hw
        exact hret _ _ _ _ _ zd199_100 (by constructor <;> decide) ⟨rfl, rfl, rfl⟩
      · rw [if_pos hc6] at h
        refine zv_con hB zd199_29 rfl ?_
        have hw := Option.some.inj h
        subst hw
        exact hret _ _ _ _ _ zd199_30 (by constructor <;> decide) ⟨rfl, rfl, rfl⟩
/-! M_has (II)Z -/
-- names: 
-- fields: ; arrays: ; out: [('ret', None)]
abbrev zy_M_has : zNL := (0, [], [], [], [])
theorem zyw_M_has : zv_wf zy_M_has = true := by decide +kernel
theorem zye_M_has : zv_ek2 zy_M_has = true := by decide +kernel
def zf_M_has (x0 : Int) (x1 : Int) : Option (Int) := if (zi_and (zi_shr x0 x1) 1) = 1 then (some 1) else (some 0)
theorem zd204_0 : decode zxm204.2.1 0 = .ok (.iload_n 0, 1) := by decide +kernel
theorem zd204_1 : decode zxm204.2.1 1 = .ok (.iload_n 1, 1) := by decide +kernel
theorem zd204_2 : decode zxm204.2.1 2 = .ok (.ishr, 1) := by decide +kernel
theorem zd204_3 : decode zxm204.2.1 3 = .ok (.iconst 1, 1) := by decide +kernel
theorem zd204_4 : decode zxm204.2.1 4 = .ok (.iand, 1) := by decide +kernel
theorem zd204_5 : decode zxm204.2.1 5 = .ok (.iconst 1, 1) := by decide +kernel
theorem zd204_6 : decode zxm204.2.1 6 = .ok (.if_icmp .ne 7, 3) := by decide +kernel
theorem zd204_9 : decode zxm204.2.1 9 = .ok (.iconst 1, 1) := by decide +kernel
theorem zd204_10 : decode zxm204.2.1 10 = .ok (.goto 4, 3) := by decide +kernel
theorem zd204_13 : decode zxm204.2.1 13 = .ok (.iconst 0, 1) := by decide +kernel
theorem zd204_14 : decode zxm204.2.1 14 = .ok (.ireturn, 1) := by decide +kernel
theorem zt_M_has {x0 : Int} {x1 : Int} {o : Int} (h : zf_M_has x0 x1 = some o) : zv_Fn z_TB z_cl z_KX zy_M_has zxm204 (0, 0) [.inl x0, .inl x1] [] [] (some o) [] [] := zv_meth (K := (z_KF13, z_KC13, z_KL13, z_KT13, [], [], [], none)) (FT := z_FT) (MT := z_MT) (n := 2) zxp204 (z_ks13 _ (fun _ h => List.mem_cons_of_mem _ h) _ _ _ _ (fun j r h _ => by cases h)) (fun _ _ => zs_KX_p) zyw_M_has (fun va F G h => by obtain ⟨rfl, _⟩ := h; rfl) (fun va F G h => by obtain ⟨rfl, _⟩ := h; rfl) rfl fun good va F G hB hret hvret hP => by
  obtain ⟨rfl, rfl, rfl⟩ := hP
  unfold zf_M_has at h
  refine zv_ild hB zd204_0 rfl rfl ?_
  refine zv_ild hB zd204_1 rfl rfl ?_
  refine zv_shrw hB zd204_2 ?_
  refine zv_con hB zd204_3 rfl ?_
  refine zv_andw hB zd204_4 ?_
  refine zv_con hB zd204_5 rfl ?_
  refine zv_cne hB zd204_6 rfl (fun hc1 => ?_) (fun hc1 => ?_)
  · rw [if_neg hc1] at h
    refine zv_con hB zd204_13 rfl ?_
    have hw := Option.some.inj h
    subst hw
    exact hret _ _ _ _ _ zd204_14 (by constructor <;> decide) ⟨rfl, rfl, rfl⟩
  · rw [if_pos hc1] at h
    refine zv_con hB zd204_9 rfl ?_
    refine zv_goto hB zd204_10 rfl ?_
    have hw := Option.some.inj h
    subst hw
    exact hret _ _ _ _ _ zd204_14 (by constructor <;> decide) ⟨rfl, rfl, rfl⟩
/-! M_isTold (I)Z -/
-- names: 0 StarTalesModel('arg', 0), 1 (0, 422)(0, 12, 0)
-- fields: ; arrays: g0 = 1; out: [('ret', None)]
abbrev zy_M_isTold : zNL := (2, [(0, 12)], [], [(0, 12, 0, 1)], [(1, 0, 422, 0)])
theorem zyw_M_isTold : zv_wf zy_M_isTold = true := by decide +kernel
theorem zye_M_isTold : zv_ek2 zy_M_isTold = true := by decide +kernel
def zf_M_isTold (x1 : Int) (g0 : (Int → Int)) : Option (Int) := if x1 < 0 then (some 0) else (if x1 < 24 then ((zf_M_has (g0 126) x1).bind fun r3 => (if r3 = 0 then (some 0) else (some 1))) else (some 0))
theorem zd203_0 : decode zxm203.2.1 0 = .ok (.iload_n 1, 1) := by decide +kernel
theorem zd203_1 : decode zxm203.2.1 1 = .ok (.ifCond .lt 27, 3) := by decide +kernel
theorem zd203_4 : decode zxm203.2.1 4 = .ok (.iload_n 1, 1) := by decide +kernel
theorem zd203_5 : decode zxm203.2.1 5 = .ok (.bipush 24, 2) := by decide +kernel
theorem zd203_7 : decode zxm203.2.1 7 = .ok (.if_icmp .ge 21, 3) := by decide +kernel
theorem zd203_10 : decode zxm203.2.1 10 = .ok (.aload_n 0, 1) := by decide +kernel
theorem zd203_11 : decode zxm203.2.1 11 = .ok (.getfield 7, 3) := by decide +kernel
theorem zd203_14 : decode zxm203.2.1 14 = .ok (.bipush 126, 2) := by decide +kernel
theorem zd203_16 : decode zxm203.2.1 16 = .ok (.iaload, 1) := by decide +kernel
theorem zd203_17 : decode zxm203.2.1 17 = .ok (.iload_n 1, 1) := by decide +kernel
theorem zd203_18 : decode zxm203.2.1 18 = .ok (.invokestatic 138, 3) := by decide +kernel
theorem zd203_21 : decode zxm203.2.1 21 = .ok (.ifCond .eq 7, 3) := by decide +kernel
theorem zd203_24 : decode zxm203.2.1 24 = .ok (.iconst 1, 1) := by decide +kernel
theorem zd203_25 : decode zxm203.2.1 25 = .ok (.goto 4, 3) := by decide +kernel
theorem zd203_28 : decode zxm203.2.1 28 = .ok (.iconst 0, 1) := by decide +kernel
theorem zd203_29 : decode zxm203.2.1 29 = .ok (.ireturn, 1) := by decide +kernel
theorem zt_M_isTold {x1 : Int} {g0 : (Int → Int)} {o : Int} (h : zf_M_isTold x1 g0 = some o) : zv_Fn z_TB z_cl z_KX zy_M_isTold zxm203 (1, 60) [.inr 0, .inl x1] [] [g0] (some o) [] [g0] := zv_meth (K := (z_KF13, z_KC13, z_KL13, z_KT13, [], [], [], none)) (FT := z_FT) (MT := z_MT) (n := 2) zxp203 (z_ks13 _ (fun _ h => List.mem_cons_of_mem _ h) _ _ _ _ (fun j r h _ => by cases h)) (fun _ _ => zs_KX_p) zyw_M_isTold (fun va F G h => by obtain ⟨rfl, _⟩ := h; rfl) (fun va F G h => by obtain ⟨rfl, _⟩ := h; rfl) rfl fun good va F G hB hret hvret hP => by
  obtain ⟨rfl, rfl, rfl⟩ := hP
  unfold zf_M_isTold at h
  refine zv_ild hB zd203_0 rfl rfl ?_
  refine zv_zlt hB zd203_1 rfl (fun hc1 => ?_) (fun hc1 => ?_)
  · rw [if_pos hc1] at h
    refine zv_con hB zd203_28 rfl ?_
    have hw := Option.some.inj h
    subst hw
    exact hret _ _ _ _ _ zd203_29 (by constructor <;> decide) ⟨rfl, rfl, rfl⟩
  · rw [if_neg (Int.not_lt.mpr hc1)] at h
    refine zv_ild hB zd203_4 rfl rfl ?_
    refine zv_con hB zd203_5 rfl ?_
    refine zv_cge hB zd203_7 rfl (fun hc2 => ?_) (fun hc2 => ?_)
    · rw [if_neg (Int.not_lt.mpr hc2)] at h
      refine zv_con hB zd203_28 rfl ?_
      have hw := Option.some.inj h
      subst hw
      exact hret _ _ _ _ _ zd203_29 (by constructor <;> decide) ⟨rfl, rfl, rfl⟩
    · rw [if_pos hc2] at h
      refine zv_ald hB zd203_10 rfl rfl rfl ?_
      refine zv_getr hB zd203_11 rfl ?_
      refine zv_con hB zd203_14 rfl ?_
      refine zv_iald hB zd203_16 rfl rfl (by decide) (by decide) (fun _ _ => ?_)
      refine zv_ild hB zd203_17 rfl rfl ?_
      obtain ⟨r3, hr3, h⟩ := zi_bind h
      refine zv_cs hB (zv_emq (va2 := [.inl (g0 126), .inl x1]) (F := []) (F' := []) (G := [g0]) (G' := [g0]) (ρ := []) (φ := []) (ψ := []) [] [none] zyw_M_has zyw_M_isTold zye_M_isTold (by decide +kernel) (zt_M_has hr3) trivial trivial rfl rfl rfl rfl rfl rfl rfl) zd203_18 zxt204 rfl (by decide) (by decide) rfl ?_
      refine zv_zeq hB zd203_21 rfl (fun hc4 => ?_) (fun hc4 => ?_)
      · rw [if_pos hc4] at h
        refine zv_con hB zd203_28 rfl ?_
        have hw := Option.some.inj h
        subst hw
        exact hret _ _ _ _ _ zd203_29 (by constructor <;> decide) ⟨rfl, rfl, rfl⟩
      · rw [if_neg hc4] at h
        refine zv_con hB zd203_24 rfl ?_
        refine zv_goto hB zd203_25 rfl ?_
        have hw := Option.some.inj h
        subst hw
        exact hret _ _ _ _ _ zd203_29 (by constructor <;> decide) ⟨rfl, rfl, rfl⟩
/-! M_walk (III)Z -/
-- names: 0 StarTalesModel('arg', 0), 1 (0, 422)(0, 12, 0)
-- fields: ; arrays: g0 = 1; out: [('ret', None), ('g', 0)]
abbrev zy_M_walk : zNL := (2, [(0, 12)], [], [(0, 12, 0, 1)], [(1, 0, 422, 0)])
theorem zyw_M_walk : zv_wf zy_M_walk = true := by decide +kernel
theorem zye_M_walk : zv_ek2 zy_M_walk = true := by decide +kernel
def zf_M_walk (x1 : Int) (x2 : Int) (x3 : Int) (g0 : (Int → Int)) : Option (Int × (Int → Int)) := (zf_M_isTold x1 g0).bind fun r1 => (if r1 = 0 then (some (0, g0)) else ((zf_M_in x2 (-3) 3).bind fun r3 => (if r3 = 0 then (some (0, g0)) else ((zf_M_in x3 (-3) 3).bind fun r5 => (if r5 = 0 then (some (0, g0)) else (cond (zi_ix (zi_w (72 + x1)) 422) (cond (zi_ix (zi_w (96 + x1)) 422) (some (1, (zv_up (zv_up g0 (zi_w (72 + x1)) x2) (zi_w (96 + x1)) x3))) none) none))))))
theorem zd202_0 : decode zxm202.2.1 0 = .ok (.aload_n 0, 1) := by decide +kernel
theorem zd202_1 : decode zxm202.2.1 1 = .ok (.iload_n 1, 1) := by decide +kernel
theorem zd202_2 : decode zxm202.2.1 2 = .ok (.invokevirtual 157, 3) := by decide +kernel
theorem zd202_5 : decode zxm202.2.1 5 = .ok (.ifCond .eq 23, 3) := by decide +kernel
theorem zd202_8 : decode zxm202.2.1 8 = .ok (.iload_n 2, 1) := by decide +kernel
theorem zd202_9 : decode zxm202.2.1 9 = .ok (.bipush (-3), 2) := by decide +kernel
theorem zd202_11 : decode zxm202.2.1 11 = .ok (.iconst 3, 1) := by decide +kernel
theorem zd202_12 : decode zxm202.2.1 12 = .ok (.invokestatic 150, 3) := by decide +kernel
theorem zd202_15 : decode zxm202.2.1 15 = .ok (.ifCond .eq 13, 3) := by decide +kernel
theorem zd202_18 : decode zxm202.2.1 18 = .ok (.iload_n 3, 1) := by decide +kernel
theorem zd202_19 : decode zxm202.2.1 19 = .ok (.bipush (-3), 2) := by decide +kernel
theorem zd202_21 : decode zxm202.2.1 21 = .ok (.iconst 3, 1) := by decide +kernel
theorem zd202_22 : decode zxm202.2.1 22 = .ok (.invokestatic 150, 3) := by decide +kernel
theorem zd202_25 : decode zxm202.2.1 25 = .ok (.ifCond .ne 5, 3) := by decide +kernel
theorem zd202_28 : decode zxm202.2.1 28 = .ok (.iconst 0, 1) := by decide +kernel
theorem zd202_29 : decode zxm202.2.1 29 = .ok (.ireturn, 1) := by decide +kernel
theorem zd202_30 : decode zxm202.2.1 30 = .ok (.aload_n 0, 1) := by decide +kernel
theorem zd202_31 : decode zxm202.2.1 31 = .ok (.getfield 7, 3) := by decide +kernel
theorem zd202_34 : decode zxm202.2.1 34 = .ok (.bipush 72, 2) := by decide +kernel
theorem zd202_36 : decode zxm202.2.1 36 = .ok (.iload_n 1, 1) := by decide +kernel
theorem zd202_37 : decode zxm202.2.1 37 = .ok (.iadd, 1) := by decide +kernel
theorem zd202_38 : decode zxm202.2.1 38 = .ok (.iload_n 2, 1) := by decide +kernel
theorem zd202_39 : decode zxm202.2.1 39 = .ok (.iastore, 1) := by decide +kernel
theorem zd202_40 : decode zxm202.2.1 40 = .ok (.aload_n 0, 1) := by decide +kernel
theorem zd202_41 : decode zxm202.2.1 41 = .ok (.getfield 7, 3) := by decide +kernel
theorem zd202_44 : decode zxm202.2.1 44 = .ok (.bipush 96, 2) := by decide +kernel
theorem zd202_46 : decode zxm202.2.1 46 = .ok (.iload_n 1, 1) := by decide +kernel
theorem zd202_47 : decode zxm202.2.1 47 = .ok (.iadd, 1) := by decide +kernel
theorem zd202_48 : decode zxm202.2.1 48 = .ok (.iload_n 3, 1) := by decide +kernel
theorem zd202_49 : decode zxm202.2.1 49 = .ok (.iastore, 1) := by decide +kernel
theorem zd202_50 : decode zxm202.2.1 50 = .ok (.iconst 1, 1) := by decide +kernel
theorem zd202_51 : decode zxm202.2.1 51 = .ok (.ireturn, 1) := by decide +kernel
theorem zt_M_walk {x1 : Int} {x2 : Int} {x3 : Int} {g0 : (Int → Int)} {o : Int × (Int → Int)} (h : zf_M_walk x1 x2 x3 g0 = some o) : zv_Fn z_TB z_cl z_KX zy_M_walk zxm202 (2, 120) [.inr 0, .inl x1, .inl x2, .inl x3] [] [g0] (some o.1) [] [o.2] := zv_meth (K := (z_KF13, z_KC13, z_KL13, z_KT13, [], [], [], none)) (FT := z_FT) (MT := z_MT) (n := 4) zxp202 (z_ks13 _ (fun _ h => List.mem_cons_of_mem _ h) _ _ _ _ (fun j r h _ => by cases h)) (fun _ _ => zs_KX_p) zyw_M_walk (fun va F G h => by obtain ⟨rfl, _⟩ := h; rfl) (fun va F G h => by obtain ⟨rfl, _⟩ := h; rfl) rfl fun good va F G hB hret hvret hP => by
  obtain ⟨rfl, rfl, rfl⟩ := hP
  unfold zf_M_walk at h
  refine zv_ald hB zd202_0 rfl rfl rfl ?_
  refine zv_ild hB zd202_1 rfl rfl ?_
  obtain ⟨r1, hr1, h⟩ := zi_bind h
  refine zv_cv hB (zv_emq (va2 := [.inr 0, .inl x1]) (F := []) (F' := []) (G := [g0]) (G' := [g0]) (ρ := [0, 1]) (φ := []) (ψ := [0]) [] [some 0] zyw_M_isTold zyw_M_walk zye_M_walk (by decide +kernel) (zt_M_isTold hr1) trivial ⟨rfl, trivial⟩ rfl rfl rfl rfl rfl rfl rfl) zd202_2 zxt203 rfl (by decide) (by decide) rfl ?_
  refine zv_zeq hB zd202_5 rfl (fun hc2 => ?_) (fun hc2 => ?_)
  · rw [if_pos hc2] at h
    refine zv_con hB zd202_28 rfl ?_
    have hw := Option.some.inj h
    subst hw
    exact hret _ _ _ _ _ zd202_29 (by constructor <;> decide) ⟨rfl, rfl, rfl⟩
  · rw [if_neg hc2] at h
    refine zv_ild hB zd202_8 rfl rfl ?_
    refine zv_con hB zd202_9 rfl ?_
    refine zv_con hB zd202_11 rfl ?_
    obtain ⟨r3, hr3, h⟩ := zi_bind h
    refine zv_cs hB (zv_emq (va2 := [.inl x2, .inl (-3), .inl 3]) (F := []) (F' := []) (G := [g0]) (G' := [g0]) (ρ := []) (φ := []) (ψ := []) [] [none] zyw_M_in zyw_M_walk zye_M_walk (by decide +kernel) (zt_M_in hr3) trivial trivial rfl rfl rfl rfl rfl rfl rfl) zd202_12 zxt200 rfl (by decide) (by decide) rfl ?_
    refine zv_zeq hB zd202_15 rfl (fun hc4 => ?_) (fun hc4 => ?_)
    · rw [if_pos hc4] at h
      refine zv_con hB zd202_28 rfl ?_
      have hw := Option.some.inj h
      subst hw
      exact hret _ _ _ _ _ zd202_29 (by constructor <;> decide) ⟨rfl, rfl, rfl⟩
    · rw [if_neg hc4] at h
      refine zv_ild hB zd202_18 rfl rfl ?_
      refine zv_con hB zd202_19 rfl ?_
      refine zv_con hB zd202_21 rfl ?_
      obtain ⟨r5, hr5, h⟩ := zi_bind h
      refine zv_cs hB (zv_emq (va2 := [.inl x3, .inl (-3), .inl 3]) (F := []) (F' := []) (G := [g0]) (G' := [g0]) (ρ := []) (φ := []) (ψ := []) [] [none] zyw_M_in zyw_M_walk zye_M_walk (by decide +kernel) (zt_M_in hr5) trivial trivial rfl rfl rfl rfl rfl rfl rfl) zd202_22 zxt200 rfl (by decide) (by decide) rfl ?_
      refine zv_zne hB zd202_25 rfl (fun hc6 => ?_) (fun hc6 => ?_)
      · rw [if_neg hc6] at h
        refine zv_ald hB zd202_30 rfl rfl rfl ?_
        refine zv_getr hB zd202_31 rfl ?_
        refine zv_con hB zd202_34 rfl ?_
        refine zv_ild hB zd202_36 rfl rfl ?_
        refine zv_addw hB zd202_37 ?_
        refine zv_ild hB zd202_38 rfl rfl ?_
        obtain ⟨c7, h⟩ := zi_if h
        refine zv_iast hB zd202_39 rfl rfl (zi_ix_ok c7).1 (zi_ix_ok c7).2 ?_
        refine zv_ald hB zd202_40 rfl rfl rfl ?_
        refine zv_getr hB zd202_41 rfl ?_
        refine zv_con hB zd202_44 rfl ?_
        refine zv_ild hB zd202_46 rfl rfl ?_
        refine zv_addw hB zd202_47 ?_
        refine zv_ild hB zd202_48 rfl rfl ?_
        obtain ⟨c8, h⟩ := zi_if h
        refine zv_iast hB zd202_49 rfl rfl (zi_ix_ok c8).1 (zi_ix_ok c8).2 ?_
        refine zv_con hB zd202_50 rfl ?_
        have hw := Option.some.inj h
        subst hw
        exact hret _ _ _ _ _ zd202_51 (by constructor <;> decide) ⟨rfl, rfl, rfl⟩
      · rw [if_pos hc6] at h
        refine zv_con hB zd202_28 rfl ?_
        have hw := Option.some.inj h
        subst hw
        exact hret _ _ _ _ _ zd202_29 (by constructor <;> decide) ⟨rfl, rfl, rfl⟩
/-! M_gone (I)Z -/
-- names: 0 StarTalesModel('arg', 0), 1 (0, 422)(0, 12, 0)
-- fields: ; arrays: g0 = 1; out: [('ret', None), ('g', 0)]
abbrev zy_M_gone : zNL := (2, [(0, 12)], [], [(0, 12, 0, 1)], [(1, 0, 422, 0)])
theorem zyw_M_gone : zv_wf zy_M_gone = true := by decide +kernel
theorem zye_M_gone : zv_ek2 zy_M_gone = true := by decide +kernel
def zf_M_gone (x1 : Int) (g0 : (Int → Int)) : Option (Int × (Int → Int)) := (zf_M_isTold x1 g0).bind fun r1 => (if r1 = 0 then (some (0, g0)) else (some (1, (zv_up g0 126 (zi_and (g0 126) (zi_xor (zi_shl 1 x1) (-1)))))))
theorem zd205_0 : decode zxm205.2.1 0 = .ok (.aload_n 0, 1) := by decide +kernel
theorem zd205_1 : decode zxm205.2.1 1 = .ok (.iload_n 1, 1) := by decide +kernel
theorem zd205_2 : decode zxm205.2.1 2 = .ok (.invokevirtual 157, 3) := by decide +kernel
theorem zd205_5 : decode zxm205.2.1 5 = .ok (.ifCond .ne 5, 3) := by decide +kernel
theorem zd205_8 : decode zxm205.2.1 8 = .ok (.iconst 0, 1) := by decide +kernel
theorem zd205_9 : decode zxm205.2.1 9 = .ok (.ireturn, 1) := by decide +kernel
theorem zd205_10 : decode zxm205.2.1 10 = .ok (.aload_n 0, 1) := by decide +kernel
theorem zd205_11 : decode zxm205.2.1 11 = .ok (.getfield 7, 3) := by decide +kernel
theorem zd205_14 : decode zxm205.2.1 14 = .ok (.bipush 126, 2) := by decide +kernel
theorem zd205_16 : decode zxm205.2.1 16 = .ok (.aload_n 0, 1) := by decide +kernel
theorem zd205_17 : decode zxm205.2.1 17 = .ok (.getfield 7, 3) := by decide +kernel
theorem zd205_20 : decode zxm205.2.1 20 = .ok (.bipush 126, 2) := by decide +kernel
theorem zd205_22 : decode zxm205.2.1 22 = .ok (.iaload, 1) := by decide +kernel
theorem zd205_23 : decode zxm205.2.1 23 = .ok (.iconst 1, 1) := by decide +kernel
theorem zd205_24 : decode zxm205.2.1 24 = .ok (.iload_n 1, 1) := by decide +kernel
theorem zd205_25 : decode zxm205.2.1 25 = .ok (.ishl, 1) := by decide +kernel
theorem zd205_26 : decode zxm205.2.1 26 = .ok (.iconst (-1), 1) := by decide +kernel
theorem zd205_27 : decode zxm205.2.1 27 = .ok (.ixor, 1) := by decide +kernel
theorem zd205_28 : decode zxm205.2.1 28 = .ok (.iand, 1) := by decide +kernel
theorem zd205_29 : decode zxm205.2.1 29 = .ok (.iastore, 1) := by decide +kernel
theorem zd205_30 : decode zxm205.2.1 30 = .ok (.iconst 1, 1) := by decide +kernel
theorem zd205_31 : decode zxm205.2.1 31 = .ok (.ireturn, 1) := by decide +kernel
theorem zt_M_gone {x1 : Int} {g0 : (Int → Int)} {o : Int × (Int → Int)} (h : zf_M_gone x1 g0 = some o) : zv_Fn z_TB z_cl z_KX zy_M_gone zxm205 (2, 120) [.inr 0, .inl x1] [] [g0] (some o.1) [] [o.2] := zv_meth (K := (z_KF13, z_KC13, z_KL13, z_KT13, [], [], [], none)) (FT := z_FT) (MT := z_MT) (n := 2) zxp205 (z_ks13 _ (fun _ h => List.mem_cons_of_mem _ h) _ _ _ _ (fun j r h _ => by cases h)) (fun _ _ => zs_KX_p) zyw_M_gone (fun va F G h => by obtain ⟨rfl, _⟩ := h; rfl) (fun va F G h => by obtain ⟨rfl, _⟩ := h; rfl) rfl fun good va F G hB hret hvret hP => by
  obtain ⟨rfl, rfl, rfl⟩ := hP
  unfold zf_M_gone at h
  refine zv_ald hB zd205_0 rfl rfl rfl ?_
  refine zv_ild hB zd205_1 rfl rfl ?_
  obtain ⟨r1, hr1, h⟩ := zi_bind h
  refine zv_cv hB (zv_emq (va2 := [.inr 0, .inl x1]) (F := []) (F' := []) (G := [g0]) (G' := [g0]) (ρ := [0, 1]) (φ := []) (ψ := [0]) [] [some 0] zyw_M_isTold zyw_M_gone zye_M_gone (by decide +kernel) (zt_M_isTold hr1) trivial ⟨rfl, trivial⟩ rfl rfl rfl rfl rfl rfl rfl) zd205_2 zxt203 rfl (by decide) (by decide) rfl ?_
  refine zv_zne hB zd205_5 rfl (fun hc2 => ?_) (fun hc2 => ?_)
  · rw [if_neg hc2] at h
    refine zv_ald hB zd205_10 rfl rfl rfl ?_
    refine zv_getr hB zd205_11 rfl ?_
    refine zv_con hB zd205_14 rfl ?_
    refine zv_ald hB zd205_16 rfl rfl rfl ?_
    refine zv_getr hB zd205_17 rfl ?_
    refine zv_con hB zd205_20 rfl ?_
    refine zv_iald hB zd205_22 rfl rfl (by decide) (by decide) (fun _ _ => ?_)
    refine zv_con hB zd205_23 rfl ?_
    refine zv_ild hB zd205_24 rfl rfl ?_
    refine zv_shlw hB zd205_25 ?_
    refine zv_con hB zd205_26 rfl ?_
    refine zv_xorw hB zd205_27 ?_
    refine zv_andw hB zd205_28 ?_
    refine zv_iast hB zd205_29 rfl rfl (by decide) (by decide) ?_
    refine zv_con hB zd205_30 rfl ?_
    have hw := Option.some.inj h
    subst hw
    exact hret _ _ _ _ _ zd205_31 (by constructor <;> decide) ⟨rfl, rfl, rfl⟩
  · rw [if_pos hc2] at h
    refine zv_con hB zd205_8 rfl ?_
    have hw := Option.some.inj h
    subst hw
    exact hret _ _ _ _ _ zd205_9 (by constructor <;> decide) ⟨rfl, rfl, rfl⟩
/-! M_hour (I)Z -/
-- names: 0 StarTalesModel('arg', 0), 1 (0, 422)(0, 12, 0)
-- fields: ; arrays: g0 = 1; out: [('ret', None), ('g', 0)]
abbrev zy_M_hour : zNL := (2, [(0, 12)], [], [(0, 12, 0, 1)], [(1, 0, 422, 0)])
theorem zyw_M_hour : zv_wf zy_M_hour = true := by decide +kernel
theorem zye_M_hour : zv_ek2 zy_M_hour = true := by decide +kernel
def zf_M_hour (x1 : Int) (g0 : (Int → Int)) : Option (Int × (Int → Int)) := (zf_M_in x1 0 23).bind fun r1 => (if r1 = 0 then (some (0, g0)) else (some (1, (zv_up g0 128 x1))))
theorem zd206_0 : decode zxm206.2.1 0 = .ok (.iload_n 1, 1) := by decide +kernel
theorem zd206_1 : decode zxm206.2.1 1 = .ok (.iconst 0, 1) := by decide +kernel
theorem zd206_2 : decode zxm206.2.1 2 = .ok (.bipush 23, 2) := by decide +kernel
theorem zd206_4 : decode zxm206.2.1 4 = .ok (.invokestatic 150, 3) := by decide +kernel
theorem zd206_7 : decode zxm206.2.1 7 = .ok (.ifCond .ne 5, 3) := by decide +kernel
theorem zd206_10 : decode zxm206.2.1 10 = .ok (.iconst 0, 1) := by decide +kernel
theorem zd206_11 : decode zxm206.2.1 11 = .ok (.ireturn, 1) := by decide +kernel
theorem zd206_12 : decode zxm206.2.1 12 = .ok (.aload_n 0, 1) := by decide +kernel
theorem zd206_13 : decode zxm206.2.1 13 = .ok (.getfield 7, 3) := by decide +kernel
theorem zd206_16 : decode zxm206.2.1 16 = .ok (.sipush 128, 3) := by decide +kernel
theorem zd206_19 : decode zxm206.2.1 19 = .ok (.iload_n 1, 1) := by decide +kernel
theorem zd206_20 : decode zxm206.2.1 20 = .ok (.iastore, 1) := by decide +kernel
theorem zd206_21 : decode zxm206.2.1 21 = .ok (.iconst 1, 1) := by decide +kernel
theorem zd206_22 : decode zxm206.2.1 22 = .ok (.ireturn, 1) := by decide +kernel
theorem zt_M_hour {x1 : Int} {g0 : (Int → Int)} {o : Int × (Int → Int)} (h : zf_M_hour x1 g0 = some o) : zv_Fn z_TB z_cl z_KX zy_M_hour zxm206 (1, 60) [.inr 0, .inl x1] [] [g0] (some o.1) [] [o.2] := zv_meth (K := (z_KF13, z_KC13, z_KL13, z_KT13, [], [], [], none)) (FT := z_FT) (MT := z_MT) (n := 2) zxp206 (z_ks13 _ (fun _ h => List.mem_cons_of_mem _ h) _ _ _ _ (fun j r h _ => by cases h)) (fun _ _ => zs_KX_p) zyw_M_hour (fun va F G h => by obtain ⟨rfl, _⟩ := h; rfl) (fun va F G h => by obtain ⟨rfl, _⟩ := h; rfl) rfl fun good va F G hB hret hvret hP => by
  obtain ⟨rfl, rfl, rfl⟩ := hP
  unfold zf_M_hour at h
  refine zv_ild hB zd206_0 rfl rfl ?_
  refine zv_con hB zd206_1 rfl ?_
  refine zv_con hB zd206_2 rfl ?_
  obtain ⟨r1, hr1, h⟩ := zi_bind h
  refine zv_cs hB (zv_emq (va2 := [.inl x1, .inl 0, .inl 23]) (F := []) (F' := []) (G := [g0]) (G' := [g0]) (ρ := []) (φ := []) (ψ := []) [] [none] zyw_M_in zyw_M_hour zye_M_hour (by decide +kernel) (zt_M_in hr1) trivial trivial rfl rfl rfl rfl rfl rfl rfl) zd206_4 zxt200 rfl (by decide) (by decide) rfl ?_
  refine zv_zne hB zd206_7 rfl (fun hc2 => ?_) (fun hc2 => ?_)
  · rw [if_neg hc2] at h
    refine zv_ald hB zd206_12 rfl rfl rfl ?_
    refine zv_getr hB zd206_13 rfl ?_
    refine zv_con hB zd206_16 rfl ?_
    refine zv_ild hB zd206_19 rfl rfl ?_
    refine zv_iast hB zd206_20 rfl rfl (by decide) (by decide) ?_
    refine zv_con hB zd206_21 rfl ?_
    have hw := Option.some.inj h
    subst hw
    exact hret _ _ _ _ _ zd206_22 (by constructor <;> decide) ⟨rfl, rfl, rfl⟩
  · rw [if_pos hc2] at h
    refine zv_con hB zd206_10 rfl ?_
    have hw := Option.some.inj h
    subst hw
    exact hret _ _ _ _ _ zd206_11 (by constructor <;> decide) ⟨rfl, rfl, rfl⟩
/-! M_clouds (I)Z -/
-- names: 0 StarTalesModel('arg', 0), 1 (0, 422)(0, 12, 0)
-- fields: ; arrays: g0 = 1; out: [('ret', None), ('g', 0)]
abbrev zy_M_clouds : zNL := (2, [(0, 12)], [], [(0, 12, 0, 1)], [(1, 0, 422, 0)])
theorem zyw_M_clouds : zv_wf zy_M_clouds = true := by decide +kernel
theorem zye_M_clouds : zv_ek2 zy_M_clouds = true := by decide +kernel
def zf_M_clouds (x1 : Int) (g0 : (Int → Int)) : Option (Int × (Int → Int)) := (zf_M_in x1 0 16777215).bind fun r1 => (if r1 = 0 then (some (0, g0)) else (some (1, (zv_up g0 130 x1))))
theorem zd207_0 : decode zxm207.2.1 0 = .ok (.iload_n 1, 1) := by decide +kernel
theorem zd207_1 : decode zxm207.2.1 1 = .ok (.iconst 0, 1) := by decide +kernel
theorem zd207_2 : decode zxm207.2.1 2 = .ok (.ldc 161, 2) := by decide +kernel
theorem zd207_4 : decode zxm207.2.1 4 = .ok (.invokestatic 150, 3) := by decide +kernel
theorem zd207_7 : decode zxm207.2.1 7 = .ok (.ifCond .ne 5, 3) := by decide +kernel
theorem zd207_10 : decode zxm207.2.1 10 = .ok (.iconst 0, 1) := by decide +kernel
theorem zd207_11 : decode zxm207.2.1 11 = .ok (.ireturn, 1) := by decide +kernel
theorem zd207_12 : decode zxm207.2.1 12 = .ok (.aload_n 0, 1) := by decide +kernel
theorem zd207_13 : decode zxm207.2.1 13 = .ok (.getfield 7, 3) := by decide +kernel
theorem zd207_16 : decode zxm207.2.1 16 = .ok (.sipush 130, 3) := by decide +kernel
theorem zd207_19 : decode zxm207.2.1 19 = .ok (.iload_n 1, 1) := by decide +kernel
theorem zd207_20 : decode zxm207.2.1 20 = .ok (.iastore, 1) := by decide +kernel
theorem zd207_21 : decode zxm207.2.1 21 = .ok (.iconst 1, 1) := by decide +kernel
theorem zd207_22 : decode zxm207.2.1 22 = .ok (.ireturn, 1) := by decide +kernel
theorem zt_M_clouds {x1 : Int} {g0 : (Int → Int)} {o : Int × (Int → Int)} (h : zf_M_clouds x1 g0 = some o) : zv_Fn z_TB z_cl z_KX zy_M_clouds zxm207 (1, 60) [.inr 0, .inl x1] [] [g0] (some o.1) [] [o.2] := zv_meth (K := (z_KF13, z_KC13, z_KL13, z_KT13, [], [], [], none)) (FT := z_FT) (MT := z_MT) (n := 2) zxp207 (z_ks13 _ (fun _ h => List.mem_cons_of_mem _ h) _ _ _ _ (fun j r h _ => by cases h)) (fun _ _ => zs_KX_p) zyw_M_clouds (fun va F G h => by obtain ⟨rfl, _⟩ := h; rfl) (fun va F G h => by obtain ⟨rfl, _⟩ := h; rfl) rfl fun good va F G hB hret hvret hP => by
  obtain ⟨rfl, rfl, rfl⟩ := hP
  unfold zf_M_clouds at h
  refine zv_ild hB zd207_0 rfl rfl ?_
  refine zv_con hB zd207_1 rfl ?_
  refine zv_con (n := 16777215) hB zd207_2 (by decide +kernel) ?_
  obtain ⟨r1, hr1, h⟩ := zi_bind h
  refine zv_cs hB (zv_emq (va2 := [.inl x1, .inl 0, .inl 16777215]) (F := []) (F' := []) (G := [g0]) (G' := [g0]) (ρ := []) (φ := []) (ψ := []) [] [none] zyw_M_in zyw_M_clouds zye_M_clouds (by decide +kernel) (zt_M_in hr1) trivial trivial rfl rfl rfl rfl rfl rfl rfl) zd207_4 zxt200 rfl (by decide) (by decide) rfl ?_
  refine zv_zne hB zd207_7 rfl (fun hc2 => ?_) (fun hc2 => ?_)
  · rw [if_neg hc2] at h
    refine zv_ald hB zd207_12 rfl rfl rfl ?_
    refine zv_getr hB zd207_13 rfl ?_
    refine zv_con hB zd207_16 rfl ?_
    refine zv_ild hB zd207_19 rfl rfl ?_
    refine zv_iast hB zd207_20 rfl rfl (by decide) (by decide) ?_
    refine zv_con hB zd207_21 rfl ?_
    have hw := Option.some.inj h
    subst hw
    exact hret _ _ _ _ _ zd207_22 (by constructor <;> decide) ⟨rfl, rfl, rfl⟩
  · rw [if_pos hc2] at h
    refine zv_con hB zd207_10 rfl ?_
    have hw := Option.some.inj h
    subst hw
    exact hret _ _ _ _ _ zd207_11 (by constructor <;> decide) ⟨rfl, rfl, rfl⟩
/-! M_sight (II)Z -/
-- names: 0 StarTalesModel('arg', 0), 1 (0, 422)(0, 12, 0)
-- fields: ; arrays: g0 = 1; out: [('ret', None), ('g', 0)]
abbrev zy_M_sight : zNL := (2, [(0, 12)], [], [(0, 12, 0, 1)], [(1, 0, 422, 0)])
theorem zyw_M_sight : zv_wf zy_M_sight = true := by decide +kernel
theorem zye_M_sight : zv_ek2 zy_M_sight = true := by decide +kernel
def zf_M_sight (x1 : Int) (x2 : Int) (g0 : (Int → Int)) : Option (Int × (Int → Int)) := (zf_M_in x1 0 11).bind fun r1 => (if r1 = 0 then (some (0, g0)) else ((zf_M_in x2 0 11).bind fun r3 => (if r3 = 0 then (some (0, g0)) else (some (1, (zv_up (zv_up g0 131 x1) 132 x2))))))
theorem zd208_0 : decode zxm208.2.1 0 = .ok (.iload_n 1, 1) := by decide +kernel
theorem zd208_1 : decode zxm208.2.1 1 = .ok (.iconst 0, 1) := by decide +kernel
theorem zd208_2 : decode zxm208.2.1 2 = .ok (.bipush 11, 2) := by decide +kernel
theorem zd208_4 : decode zxm208.2.1 4 = .ok (.invokestatic 150, 3) := by decide +kernel
theorem zd208_7 : decode zxm208.2.1 7 = .ok (.ifCond .eq 13, 3) := by decide +kernel
theorem zd208_10 : decode zxm208.2.1 10 = .ok (.iload_n 2, 1) := by decide +kernel
theorem zd208_11 : decode zxm208.2.1 11 = .ok (.iconst 0, 1) := by decide +kernel
theorem zd208_12 : decode zxm208.2.1 12 = .ok (.bipush 11, 2) := by decide +kernel
theorem zd208_14 : decode zxm208.2.1 14 = .ok (.invokestatic 150, 3) := by decide +kernel
theorem zd208_17 : decode zxm208.2.1 17 = .ok (.ifCond .ne 5, 3) := by decide +kernel
theorem zd208_20 : decode zxm208.2.1 20 = .ok (.iconst 0, 1) := by decide +kernel
theorem zd208_21 : decode zxm208.2.1 21 = .ok (.ireturn, 1) := by decide +kernel
theorem zd208_22 : decode zxm208.2.1 22 = .ok (.aload_n 0, 1) := by decide +kernel
theorem zd208_23 : decode zxm208.2.1 23 = .ok (.getfield 7, 3) := by decide +kernel
theorem zd208_26 : decode zxm208.2.1 26 = .ok (.sipush 131, 3) := by decide +kernel
theorem zd208_29 : decode zxm208.2.1 29 = .ok (.iload_n 1, 1) := by decide +kernel
theorem zd208_30 : decode zxm208.2.1 30 = .ok (.iastore, 1) := by decide +kernel
theorem zd208_31 : decode zxm208.2.1 31 = .ok (.aload_n 0, 1) := by decide +kernel
theorem zd208_32 : decode zxm208.2.1 32 = .ok (.getfield 7, 3) := by decide +kernel
theorem zd208_35 : decode zxm208.2.1 35 = .ok (.sipush 132, 3) := by decide +kernel
theorem zd208_38 : decode zxm208.2.1 38 = .ok (.iload_n 2, 1) := by decide +kernel
theorem zd208_39 : decode zxm208.2.1 39 = .ok (.iastore, 1) := by decide +kernel
theorem zd208_40 : decode zxm208.2.1 40 = .ok (.iconst 1, 1) := by decide +kernel
theorem zd208_41 : decode zxm208.2.1 41 = .ok (.ireturn, 1) := by decide +kernel
theorem zt_M_sight {x1 : Int} {x2 : Int} {g0 : (Int → Int)} {o : Int × (Int → Int)} (h : zf_M_sight x1 x2 g0 = some o) : zv_Fn z_TB z_cl z_KX zy_M_sight zxm208 (1, 60) [.inr 0, .inl x1, .inl x2] [] [g0] (some o.1) [] [o.2] := zv_meth (K := (z_KF13, z_KC13, z_KL13, z_KT13, [], [], [], none)) (FT := z_FT) (MT := z_MT) (n := 3) zxp208 (z_ks13 _ (fun _ h => List.mem_cons_of_mem _ h) _ _ _ _ (fun j r h _ => by cases h)) (fun _ _ => zs_KX_p) zyw_M_sight (fun va F G h => by obtain ⟨rfl, _⟩ := h; rfl) (fun va F G h => by obtain ⟨rfl, _⟩ := h; rfl) rfl fun good va F G hB hret hvret hP => by
  obtain ⟨rfl, rfl, rfl⟩ := hP
  unfold zf_M_sight at h
  refine zv_ild hB zd208_0 rfl rfl ?_
  refine zv_con hB zd208_1 rfl ?_
  refine zv_con hB zd208_2 rfl ?_
  obtain ⟨r1, hr1, h⟩ := zi_bind h
  refine zv_cs hB (zv_emq (va2 := [.inl x1, .inl 0, .inl 11]) (F := []) (F' := []) (G := [g0]) (G' := [g0]) (ρ := []) (φ := []) (ψ := []) [] [none] zyw_M_in zyw_M_sight zye_M_sight (by decide +kernel) (zt_M_in hr1) trivial trivial rfl rfl rfl rfl rfl rfl rfl) zd208_4 zxt200 rfl (by decide) (by decide) rfl ?_
  refine zv_zeq hB zd208_7 rfl (fun hc2 => ?_) (fun hc2 => ?_)
  · rw [if_pos hc2] at h
    refine zv_con hB zd208_20 rfl ?_
    have hw := Option.some.inj h
    subst hw
    exact hret _ _ _ _ _ zd208_21 (by constructor <;> decide) ⟨rfl, rfl, rfl⟩
  · rw [if_neg hc2] at h
    refine zv_ild hB zd208_10 rfl rfl ?_
    refine zv_con hB zd208_11 rfl ?_
    refine zv_con hB zd208_12 rfl ?_
    obtain ⟨r3, hr3, h⟩ := zi_bind h
    refine zv_cs hB (zv_emq (va2 := [.inl x2, .inl 0, .inl 11]) (F := []) (F' := []) (G := [g0]) (G' := [g0]) (ρ := []) (φ := []) (ψ := []) [] [none] zyw_M_in zyw_M_sight zye_M_sight (by decide +kernel) (zt_M_in hr3) trivial trivial rfl rfl rfl rfl rfl rfl rfl) zd208_14 zxt200 rfl (by decide) (by decide) rfl ?_
    refine zv_zne hB zd208_17 rfl (fun hc4 => ?_) (fun hc4 => ?_)
    · rw [if_neg hc4] at h
      refine zv_ald hB zd208_22 rfl rfl rfl ?_
      refine zv_getr hB zd208_23 rfl ?_
      refine zv_con hB zd208_26 rfl ?_
      refine zv_ild hB zd208_29 rfl rfl ?_
      refine zv_iast hB zd208_30 rfl rfl (by decide) (by decide) ?_
      refine zv_ald hB zd208_31 rfl rfl rfl ?_
      refine zv_getr hB zd208_32 rfl ?_
      refine zv_con hB zd208_35 rfl ?_
      refine zv_ild hB zd208_38 rfl rfl ?_
      refine zv_iast hB zd208_39 rfl rfl (by decide) (by decide) ?_
      refine zv_con hB zd208_40 rfl ?_
      have hw := Option.some.inj h
      subst hw
      exact hret _ _ _ _ _ zd208_41 (by constructor <;> decide) ⟨rfl, rfl, rfl⟩
    · rw [if_pos hc4] at h
      refine zv_con hB zd208_20 rfl ?_
      have hw := Option.some.inj h
      subst hw
      exact hret _ _ _ _ _ zd208_21 (by constructor <;> decide) ⟨rfl, rfl, rfl⟩
end
section
/-! Methods as functions, and that they do what these do. -/
/-! M_isShip (I)Z -/
-- names: 0 StarTalesModel('arg', 0), 1 (0, 422)(0, 12, 0)
-- fields: ; arrays: g0 = 1; out: [('ret', None)]
abbrev zy_M_isShip : zNL := (2, [(0, 12)], [], [(0, 12, 0, 1)], [(1, 0, 422, 0)])
theorem zyw_M_isShip : zv_wf zy_M_isShip = true := by decide +kernel
theorem zye_M_isShip : zv_ek2 zy_M_isShip = true := by decide +kernel
def zf_M_isShip (x1 : Int) (g0 : (Int → Int)) : Option (Int) := if x1 < 0 then (some 0) else (if x1 < 6 then ((zf_M_has (g0 127) x1).bind fun r3 => (if r3 = 0 then (some 0) else (some 1))) else (some 0))
theorem zd210_0 : decode zxm210.2.1 0 = .ok (.iload_n 1, 1) := by decide +kernel
theorem zd210_1 : decode zxm210.2.1 1 = .ok (.ifCond .lt 27, 3) := by decide +kernel
theorem zd210_4 : decode zxm210.2.1 4 = .ok (.iload_n 1, 1) := by decide +kernel
theorem zd210_5 : decode zxm210.2.1 5 = .ok (.bipush 6, 2) := by decide +kernel
theorem zd210_7 : decode zxm210.2.1 7 = .ok (.if_icmp .ge 21, 3) := by decide +kernel
theorem zd210_10 : decode zxm210.2.1 10 = .ok (.aload_n 0, 1) := by decide +kernel
theorem zd210_11 : decode zxm210.2.1 11 = .ok (.getfield 7, 3) := by decide +kernel
theorem zd210_14 : decode zxm210.2.1 14 = .ok (.bipush 127, 2) := by decide +kernel
theorem zd210_16 : decode zxm210.2.1 16 = .ok (.iaload, 1) := by decide +kernel
theorem zd210_17 : decode zxm210.2.1 17 = .ok (.iload_n 1, 1) := by decide +kernel
theorem zd210_18 : decode zxm210.2.1 18 = .ok (.invokestatic 138, 3) := by decide +kernel
theorem zd210_21 : decode zxm210.2.1 21 = .ok (.ifCond .eq 7, 3) := by decide +kernel
theorem zd210_24 : decode zxm210.2.1 24 = .ok (.iconst 1, 1) := by decide +kernel
theorem zd210_25 : decode zxm210.2.1 25 = .ok (.goto 4, 3) := by decide +kernel
theorem zd210_28 : decode zxm210.2.1 28 = .ok (.iconst 0, 1) := by decide +kernel
theorem zd210_29 : decode zxm210.2.1 29 = .ok (.ireturn, 1) := by decide +kernel
theorem zt_M_isShip {x1 : Int} {g0 : (Int → Int)} {o : Int} (h : zf_M_isShip x1 g0 = some o) : zv_Fn z_TB z_cl z_KX zy_M_isShip zxm210 (1, 60) [.inr 0, .inl x1] [] [g0] (some o) [] [g0] := zv_meth (K := (z_KF13, z_KC13, z_KL13, z_KT13, [], [], [], none)) (FT := z_FT) (MT := z_MT) (n := 2) zxp210 (z_ks13 _ (fun _ h => List.mem_cons_of_mem _ h) _ _ _ _ (fun j r h _ => by cases h)) (fun _ _ => zs_KX_p) zyw_M_isShip (fun va F G h => by obtain ⟨rfl, _⟩ := h; rfl) (fun va F G h => by obtain ⟨rfl, _⟩ := h; rfl) rfl fun good va F G hB hret hvret hP => by
  obtain ⟨rfl, rfl, rfl⟩ := hP
  unfold zf_M_isShip at h
  refine zv_ild hB zd210_0 rfl rfl ?_
  refine zv_zlt hB zd210_1 rfl (fun hc1 => ?_) (fun hc1 => ?_)
  · rw [if_pos hc1] at h
    refine zv_con hB zd210_28 rfl ?_
    have hw := Option.some.inj h
    subst hw
    exact hret _ _ _ _ _ zd210_29 (by constructor <;> decide) ⟨rfl, rfl, rfl⟩
  · rw [if_neg (Int.not_lt.mpr hc1)] at h
    refine zv_ild hB zd210_4 rfl rfl ?_
    refine zv_con hB zd210_5 rfl ?_
    refine zv_cge hB zd210_7 rfl (fun hc2 => ?_) (fun hc2 => ?_)
    · rw [if_neg (Int.not_lt.mpr hc2)] at h
      refine zv_con hB zd210_28 rfl ?_
      have hw := Option.some.inj h
      subst hw
      exact hret _ _ _ _ _ zd210_29 (by constructor <;> decide) ⟨rfl, rfl, rfl⟩
    · rw [if_pos hc2] at h
      refine zv_ald hB zd210_10 rfl rfl rfl ?_
      refine zv_getr hB zd210_11 rfl ?_
      refine zv_con hB zd210_14 rfl ?_
      refine zv_iald hB zd210_16 rfl rfl (by decide) (by decide) (fun _ _ => ?_)
      refine zv_ild hB zd210_17 rfl rfl ?_
      obtain ⟨r3, hr3, h⟩ := zi_bind h
      refine zv_cs hB (zv_emq (va2 := [.inl (g0 127), .inl x1]) (F := []) (F' := []) (G := [g0]) (G' := [g0]) (ρ := []) (φ := []) (ψ := []) [] [none] zyw_M_has zyw_M_isShip zye_M_isShip (by decide +kernel) (zt_M_has hr3) trivial trivial rfl rfl rfl rfl rfl rfl rfl) zd210_18 zxt204 rfl (by decide) (by decide) rfl ?_
      refine zv_zeq hB zd210_21 rfl (fun hc4 => ?_) (fun hc4 => ?_)
      · rw [if_pos hc4] at h
        refine zv_con hB zd210_28 rfl ?_
        have hw := Option.some.inj h
        subst hw
        exact hret _ _ _ _ _ zd210_29 (by constructor <;> decide) ⟨rfl, rfl, rfl⟩
      · rw [if_neg hc4] at h
        refine zv_con hB zd210_24 rfl ?_
        refine zv_goto hB zd210_25 rfl ?_
        have hw := Option.some.inj h
        subst hw
        exact hret _ _ _ _ _ zd210_29 (by constructor <;> decide) ⟨rfl, rfl, rfl⟩
/-! M_land (IIZ)Z -/
-- names: 0 StarTalesModel('arg', 0), 1 (0, 422)(0, 12, 0)
-- fields: ; arrays: g0 = 1; out: [('ret', None), ('g', 0)]
abbrev zy_M_land : zNL := (2, [(0, 12)], [], [(0, 12, 0, 1)], [(1, 0, 422, 0)])
theorem zyw_M_land : zv_wf zy_M_land = true := by decide +kernel
theorem zye_M_land : zv_ek2 zy_M_land = true := by decide +kernel
def zf_M_land_l0_b (x1 : Int) (x2 : Int) (g0 : (Int → Int)) (rec : Int → Option (((Unit) ⊕ (Int × (Int → Int))))) (x4 : Int) : Option (((Unit) ⊕ (Int × (Int → Int)))) := if x4 < 6 then ((zf_M_isShip x4 g0).bind fun r4 => (if r4 = 0 then (rec (zi_w (x4 + 1))) else (cond (zi_ix (zi_w (120 + x4)) 422) (if (g0 (zi_w (120 + x4))) = (zi_w ((zi_w (24 * x2)) + x1)) then (some (.inr (0, g0))) else (rec (zi_w (x4 + 1)))) none))) else (some (.inl ()))
def zf_M_land_l0 (x1 : Int) (x2 : Int) (g0 : (Int → Int)) : Nat → Int → Option (((Unit) ⊕ (Int × (Int → Int))))
  | 0, _ => none
  | n + 1, x4 => zf_M_land_l0_b x1 x2 g0 (zf_M_land_l0 x1 x2 g0 n) x4
def zf_M_land (x1 : Int) (x2 : Int) (x3 : Int) (g0 : (Int → Int)) : Option (Int × (Int → Int)) := (zf_M_isPlace x1 x2).bind fun r1 => (if r1 = 0 then (some (0, g0)) else ((zf_M_land_l0 x1 x2 g0 zi_fu 0).bind fun q8 => Sum.elim (fun e9 => (if x3 = 0 then (cond (zi_ix (zi_w ((zi_w (134 + (zi_w (24 * x2)))) + x1)) 422) (some (1, (zv_up g0 (zi_w ((zi_w (134 + (zi_w (24 * x2)))) + x1)) 0))) none) else (cond (zi_ix (zi_w ((zi_w (134 + (zi_w (24 * x2)))) + x1)) 422) (some (1, (zv_up g0 (zi_w ((zi_w (134 + (zi_w (24 * x2)))) + x1)) 1))) none))) (fun w13 => some w13) q8))
theorem zd209_0 : decode zxm209.2.1 0 = .ok (.iload_n 1, 1) := by decide +kernel
theorem zd209_1 : decode zxm209.2.1 1 = .ok (.iload_n 2, 1) := by decide +kernel
theorem zd209_2 : decode zxm209.2.1 2 = .ok (.invokestatic 154, 3) := by decide +kernel
theorem zd209_5 : decode zxm209.2.1 5 = .ok (.ifCond .ne 5, 3) := by decide +kernel
theorem zd209_8 : decode zxm209.2.1 8 = .ok (.iconst 0, 1) := by decide +kernel
theorem zd209_9 : decode zxm209.2.1 9 = .ok (.ireturn, 1) := by decide +kernel
theorem zd209_10 : decode zxm209.2.1 10 = .ok (.iconst 0, 1) := by decide +kernel
theorem zd209_11 : decode zxm209.2.1 11 = .ok (.istore 4, 2) := by decide +kernel
theorem zd209_13 : decode zxm209.2.1 13 = .ok (.iload 4, 2) := by decide +kernel
theorem zd209_15 : decode zxm209.2.1 15 = .ok (.bipush 6, 2) := by decide +kernel
theorem zd209_17 : decode zxm209.2.1 17 = .ok (.if_icmp .ge 39, 3) := by decide +kernel
theorem zd209_20 : decode zxm209.2.1 20 = .ok (.aload_n 0, 1) := by decide +kernel
theorem zd209_21 : decode zxm209.2.1 21 = .ok (.iload 4, 2) := by decide +kernel
theorem zd209_23 : decode zxm209.2.1 23 = .ok (.invokevirtual 162, 3) := by decide +kernel
theorem zd209_26 : decode zxm209.2.1 26 = .ok (.ifCond .eq 24, 3) := by decide +kernel
theorem zd209_29 : decode zxm209.2.1 29 = .ok (.aload_n 0, 1) := by decide +kernel
theorem zd209_30 : decode zxm209.2.1 30 = .ok (.getfield 7, 3) := by decide +kernel
theorem zd209_33 : decode zxm209.2.1 33 = .ok (.bipush 120, 2) := by decide +kernel
theorem zd209_35 : decode zxm209.2.1 35 = .ok (.iload 4, 2) := by decide +kernel
theorem zd209_37 : decode zxm209.2.1 37 = .ok (.iadd, 1) := by decide +kernel
theorem zd209_38 : decode zxm209.2.1 38 = .ok (.iaload, 1) := by decide +kernel
theorem zd209_39 : decode zxm209.2.1 39 = .ok (.bipush 24, 2) := by decide +kernel
theorem zd209_41 : decode zxm209.2.1 41 = .ok (.iload_n 2, 1) := by decide +kernel
theorem zd209_42 : decode zxm209.2.1 42 = .ok (.imul, 1) := by decide +kernel
theorem zd209_43 : decode zxm209.2.1 43 = .ok (.iload_n 1, 1) := by decide +kernel
theorem zd209_44 : decode zxm209.2.1 44 = .ok (.iadd, 1) := by decide +kernel
theorem zd209_45 : decode zxm209.2.1 45 = .ok (.if_icmp .ne 5, 3) := by decide +kernel
theorem zd209_48 : decode zxm209.2.1 48 = .ok (.iconst 0, 1) := by decide +kernel
theorem zd209_49 : decode zxm209.2.1 49 = .ok (.ireturn, 1) := by decide +kernel
theorem zd209_50 : decode zxm209.2.1 50 = .ok (.iinc 4 1, 3) := by decide +kernel
theorem zd209_53 : decode zxm209.2.1 53 = .ok (.goto (-40), 3) := by decide +kernel
theorem zd209_56 : decode zxm209.2.1 56 = .ok (.aload_n 0, 1) := by decide +kernel
theorem zd209_57 : decode zxm209.2.1 57 = .ok (.getfield 7, 3) := by decide +kernel
theorem zd209_60 : decode zxm209.2.1 60 = .ok (.sipush 134, 3) := by decide +kernel
theorem zd209_63 : decode zxm209.2.1 63 = .ok (.bipush 24, 2) := by decide +kernel
theorem zd209_65 : decode zxm209.2.1 65 = .ok (.iload_n 2, 1) := by decide +kernel
theorem zd209_66 : decode zxm209.2.1 66 = .ok (.imul, 1) := by decide +kernel
theorem zd209_67 : decode zxm209.2.1 67 = .ok (.iadd, 1) := by decide +kernel
theorem zd209_68 : decode zxm209.2.1 68 = .ok (.iload_n 1, 1) := by decide +kernel
theorem zd209_69 : decode zxm209.2.1 69 = .ok (.iadd, 1) := by decide +kernel
theorem zd209_70 : decode zxm209.2.1 70 = .ok (.iload_n 3, 1) := by decide +kernel
theorem zd209_71 : decode zxm209.2.1 71 = .ok (.ifCond .eq 7, 3) := by decide +kernel
theorem zd209_74 : decode zxm209.2.1 74 = .ok (.iconst 1, 1) := by decide +kernel
theorem zd209_75 : decode zxm209.2.1 75 = .ok (.goto 4, 3) := by decide +kernel
theorem zd209_78 : decode zxm209.2.1 78 = .ok (.iconst 0, 1) := by decide +kernel
theorem zd209_79 : decode zxm209.2.1 79 = .ok (.iastore, 1) := by decide +kernel
theorem zd209_80 : decode zxm209.2.1 80 = .ok (.iconst 1, 1) := by decide +kernel
theorem zd209_81 : decode zxm209.2.1 81 = .ok (.ireturn, 1) := by decide +kernel
theorem zt_M_land {x1 : Int} {x2 : Int} {x3 : Int} {g0 : (Int → Int)} {o : Int × (Int → Int)} (h : zf_M_land x1 x2 x3 g0 = some o) : zv_Fn z_TB z_cl z_KX zy_M_land zxm209 (2, 120) [.inr 0, .inl x1, .inl x2, .inl x3] [] [g0] (some o.1) [] [o.2] := zv_meth (K := (z_KF13, z_KC13, z_KL13, z_KT13, [], [], [], none)) (FT := z_FT) (MT := z_MT) (n := 4) zxp209 (z_ks13 _ (fun _ h => List.mem_cons_of_mem _ h) _ _ _ _ (fun j r h _ => by cases h)) (fun _ _ => zs_KX_p) zyw_M_land (fun va F G h => by obtain ⟨rfl, _⟩ := h; rfl) (fun va F G h => by obtain ⟨rfl, _⟩ := h; rfl) rfl fun good va F G hB hret hvret hP => by
  obtain ⟨rfl, rfl, rfl⟩ := hP
  have l0 : ∀ (n : Nat) (x1 : Int) (x2 : Int) (x3 : Int) (x4 : Int) (g0 : (Int → Int)) (q : ((Unit) ⊕ (Int × (Int → Int)))), zf_M_land_l0 x1 x2 g0 n x4 = some q → (Sum.elim (fun e : Unit => good 56 [.inr 0, .inl x1, .inl x2, .inl x3, .inr 1000] [] [] [g0]) (fun w : Int × (Int → Int) => w = o) q) → good 13 [.inr 0, .inl x1, .inl x2, .inl x3, .inl x4] [] [] [g0] := by
    intro n
    induction n with
    | zero => intro x1 x2 x3 x4 g0 q h; exact absurd (show none = some q from h) (fun h => by cases h)
    | succ n ih =>
      intro x1 x2 x3 x4 g0 q h hK
      replace h : zf_M_land_l0_b x1 x2 g0 (zf_M_land_l0 x1 x2 g0 n) x4 = some q := h
      unfold zf_M_land_l0_b at h
      refine zv_ild hB zd209_13 rfl rfl ?_
      refine zv_con hB zd209_15 rfl ?_
      refine zv_cge hB zd209_17 rfl (fun hc3 => ?_) (fun hc3 => ?_)
      · rw [if_neg (Int.not_lt.mpr hc3)] at h
        have hq := Option.some.inj h
        subst hq
        refine zv_wk hB (L' := [.inr 0, .inl x1, .inl x2, .inl x3, .inr 1000]) (F' := []) ⟨fun _ => rfl, fun _ => rfl, fun _ => rfl, fun _ => rfl, fun (h : zv_is (.inr 1000)) => (Nat.lt_irrefl 1000 h).elim, trivial⟩ trivial ?_
        exact hK
      · rw [if_pos hc3] at h
        refine zv_ald hB zd209_20 rfl rfl rfl ?_
        refine zv_ild hB zd209_21 rfl rfl ?_
        obtain ⟨r4, hr4, h⟩ := zi_bind h
        refine zv_cv hB (zv_emq (va2 := [.inr 0, .inl x4]) (F := []) (F' := []) (G := [g0]) (G' := [g0]) (ρ := [0, 1]) (φ := []) (ψ := [0]) [] [some 0] zyw_M_isShip zyw_M_land zye_M_land (by decide +kernel) (zt_M_isShip hr4) trivial ⟨rfl, trivial⟩ rfl rfl rfl rfl rfl rfl rfl) zd209_23 zxt210 rfl (by decide) (by decide) rfl ?_
        refine zv_zeq hB zd209_26 rfl (fun hc5 => ?_) (fun hc5 => ?_)
        · rw [if_pos hc5] at h
          refine zv_iincw hB zd209_50 rfl rfl ?_
          refine zv_goto hB zd209_53 rfl ?_
          exact ih _ _ _ _ _ q h hK
        · rw [if_neg hc5] at h
          refine zv_ald hB zd209_29 rfl rfl rfl ?_
          refine zv_getr hB zd209_30 rfl ?_
          refine zv_con hB zd209_33 rfl ?_
          refine zv_ild hB zd209_35 rfl rfl ?_
          refine zv_addw hB zd209_37 ?_
          obtain ⟨c6, h⟩ := zi_if h
          refine zv_iald hB zd209_38 rfl rfl (zi_ix_ok c6).1 (zi_ix_ok c6).2 (fun _ _ => ?_)
          refine zv_con hB zd209_39 rfl ?_
          refine zv_ild hB zd209_41 rfl rfl ?_
          refine zv_mulw hB zd209_42 ?_
          refine zv_ild hB zd209_43 rfl rfl ?_
          refine zv_addw hB zd209_44 ?_
          refine zv_cne hB zd209_45 rfl (fun hc7 => ?_) (fun hc7 => ?_)
          · rw [if_neg hc7] at h
            refine zv_iincw hB zd209_50 rfl rfl ?_
            refine zv_goto hB zd209_53 rfl ?_
            exact ih _ _ _ _ _ q h hK
          · rw [if_pos hc7] at h
            refine zv_con hB zd209_48 rfl ?_
            have hw : (0, g0) = o := zi_rk (Option.some.inj h) hK
            subst hw
            exact hret _ _ _ _ _ zd209_49 (by constructor <;> decide) ⟨rfl, rfl, rfl⟩
  unfold zf_M_land at h
  refine zv_ild hB zd209_0 rfl rfl ?_
  refine zv_ild hB zd209_1 rfl rfl ?_
  obtain ⟨r1, hr1, h⟩ := zi_bind h
  refine zv_cs hB (zv_emq (va2 := [.inl x1, .inl x2]) (F := []) (F' := []) (G := [g0]) (G' := [g0]) (ρ := []) (φ := []) (ψ := []) [] [none] zyw_M_isPlace zyw_M_land zye_M_land (by decide +kernel) (zt_M_isPlace hr1) trivial trivial rfl rfl rfl rfl rfl rfl rfl) zd209_2 zxt201 rfl (by decide) (by decide) rfl ?_
  refine zv_zne hB zd209_5 rfl (fun hc2 => ?_) (fun hc2 => ?_)
  · rw [if_neg hc2] at h
    refine zv_con hB zd209_10 rfl ?_
    refine zv_ist hB zd209_11 rfl rfl rfl ?_
    obtain ⟨q8, hq8, h⟩ := zi_bind h
    refine l0 _ _ _ _ _ _ q8 hq8 ?_
    rcases q8 with e9 | w13
    · replace h := zi_sl h
      show good 56 [.inr 0, .inl x1, .inl x2, .inl x3, .inr 1000] [] [] [g0]
      refine zv_ald hB zd209_56 rfl rfl rfl ?_
      refine zv_getr hB zd209_57 rfl ?_
      refine zv_con hB zd209_60 rfl ?_
      refine zv_con hB zd209_63 rfl ?_
      refine zv_ild hB zd209_65 rfl rfl ?_
      refine zv_mulw hB zd209_66 ?_
      refine zv_addw hB zd209_67 ?_
      refine zv_ild hB zd209_68 rfl rfl ?_
      refine zv_addw hB zd209_69 ?_
      refine zv_ild hB zd209_70 rfl rfl ?_
      refine zv_zeq hB zd209_71 rfl (fun hc10 => ?_) (fun hc10 => ?_)
      · rw [if_pos hc10] at h
        refine zv_con hB zd209_78 rfl ?_
        obtain ⟨c11, h⟩ := zi_if h
        refine zv_iast hB zd209_79 rfl rfl (zi_ix_ok c11).1 (zi_ix_ok c11).2 ?_
        refine zv_con hB zd209_80 rfl ?_
        have hw := Option.some.inj h
        subst hw
        exact hret _ _ _ _ _ zd209_81 (by constructor <;> decide) ⟨rfl, rfl, rfl⟩
      · rw [if_neg hc10] at h
        refine zv_con hB zd209_74 rfl ?_
        refine zv_goto hB zd209_75 rfl ?_
        obtain ⟨c12, h⟩ := zi_if h
        refine zv_iast hB zd209_79 rfl rfl (zi_ix_ok c12).1 (zi_ix_ok c12).2 ?_
        refine zv_con hB zd209_80 rfl ?_
        have hw := Option.some.inj h
        subst hw
        exact hret _ _ _ _ _ zd209_81 (by constructor <;> decide) ⟨rfl, rfl, rfl⟩
    · exact Option.some.inj h
  · rw [if_pos hc2] at h
    refine zv_con hB zd209_8 rfl ?_
    have hw := Option.some.inj h
    subst hw
    exact hret _ _ _ _ _ zd209_9 (by constructor <;> decide) ⟨rfl, rfl, rfl⟩
/-! M_isLand (I)Z -/
-- names: 0 StarTalesModel('arg', 0), 1 (0, 422)(0, 12, 0)
-- fields: ; arrays: g0 = 1; out: [('ret', None)]
abbrev zy_M_isLand : zNL := (2, [(0, 12)], [], [(0, 12, 0, 1)], [(1, 0, 422, 0)])
theorem zyw_M_isLand : zv_wf zy_M_isLand = true := by decide +kernel
theorem zye_M_isLand : zv_ek2 zy_M_isLand = true := by decide +kernel
def zf_M_isLand (x1 : Int) (g0 : (Int → Int)) : Option (Int) := cond (zi_ix (zi_w (134 + x1)) 422) (if (g0 (zi_w (134 + x1))) = 1 then (some 1) else (some 0)) none
theorem zd212_0 : decode zxm212.2.1 0 = .ok (.aload_n 0, 1) := by decide +kernel
theorem zd212_1 : decode zxm212.2.1 1 = .ok (.getfield 7, 3) := by decide +kernel
theorem zd212_4 : decode zxm212.2.1 4 = .ok (.sipush 134, 3) := by decide +kernel
theorem zd212_7 : decode zxm212.2.1 7 = .ok (.iload_n 1, 1) := by decide +kernel
theorem zd212_8 : decode zxm212.2.1 8 = .ok (.iadd, 1) := by decide +kernel
theorem zd212_9 : decode zxm212.2.1 9 = .ok (.iaload, 1) := by decide +kernel
theorem zd212_10 : decode zxm212.2.1 10 = .ok (.iconst 1, 1) := by decide +kernel
theorem zd212_11 : decode zxm212.2.1 11 = .ok (.if_icmp .ne 7, 3) := by decide +kernel
theorem zd212_14 : decode zxm212.2.1 14 = .ok (.iconst 1, 1) := by decide +kernel
theorem zd212_15 : decode zxm212.2.1 15 = .ok (.goto 4, 3) := by decide +kernel
theorem zd212_18 : decode zxm212.2.1 18 = .ok (.iconst 0, 1) := by decide +kernel
theorem zd212_19 : decode zxm212.2.1 19 = .ok (.ireturn, 1) := by decide +kernel
theorem zt_M_isLand {x1 : Int} {g0 : (Int → Int)} {o : Int} (h : zf_M_isLand x1 g0 = some o) : zv_Fn z_TB z_cl z_KX zy_M_isLand zxm212 (0, 0) [.inr 0, .inl x1] [] [g0] (some o) [] [g0] := zv_meth (K := (z_KF13, z_KC13, z_KL13, z_KT13, [], [], [], none)) (FT := z_FT) (MT := z_MT) (n := 2) zxp212 (z_ks13 _ (fun _ h => List.mem_cons_of_mem _ h) _ _ _ _ (fun j r h _ => by cases h)) (fun _ _ => zs_KX_p) zyw_M_isLand (fun va F G h => by obtain ⟨rfl, _⟩ := h; rfl) (fun va F G h => by obtain ⟨rfl, _⟩ := h; rfl) rfl fun good va F G hB hret hvret hP => by
  obtain ⟨rfl, rfl, rfl⟩ := hP
  unfold zf_M_isLand at h
  refine zv_ald hB zd212_0 rfl rfl rfl ?_
  refine zv_getr hB zd212_1 rfl ?_
  refine zv_con hB zd212_4 rfl ?_
  refine zv_ild hB zd212_7 rfl rfl ?_
  refine zv_addw hB zd212_8 ?_
  obtain ⟨c1, h⟩ := zi_if h
  refine zv_iald hB zd212_9 rfl rfl (zi_ix_ok c1).1 (zi_ix_ok c1).2 (fun _ _ => ?_)
  refine zv_con hB zd212_10 rfl ?_
  refine zv_cne hB zd212_11 rfl (fun hc2 => ?_) (fun hc2 => ?_)
  · rw [if_neg hc2] at h
    refine zv_con hB zd212_18 rfl ?_
    have hw := Option.some.inj h
    subst hw
    exact hret _ _ _ _ _ zd212_19 (by constructor <;> decide) ⟨rfl, rfl, rfl⟩
  · rw [if_pos hc2] at h
    refine zv_con hB zd212_14 rfl ?_
    refine zv_goto hB zd212_15 rfl ?_
    have hw := Option.some.inj h
    subst hw
    exact hret _ _ _ _ _ zd212_19 (by constructor <;> decide) ⟨rfl, rfl, rfl⟩
/-! M_ship (III)Z -/
-- names: 0 StarTalesModel('arg', 0), 1 (0, 422)(0, 12, 0)
-- fields: ; arrays: g0 = 1; out: [('ret', None), ('g', 0)]
abbrev zy_M_ship : zNL := (2, [(0, 12)], [], [(0, 12, 0, 1)], [(1, 0, 422, 0)])
theorem zyw_M_ship : zv_wf zy_M_ship = true := by decide +kernel
theorem zye_M_ship : zv_ek2 zy_M_ship = true := by decide +kernel
def zf_M_ship (x1 : Int) (x2 : Int) (x3 : Int) (g0 : (Int → Int)) : Option (Int × (Int → Int)) := (zf_M_in x1 0 5).bind fun r1 => (if r1 = 0 then (some (0, g0)) else ((zf_M_isPlace x2 x3).bind fun r3 => (if r3 = 0 then (some (0, g0)) else ((zf_M_isLand (zi_w ((zi_w (24 * x3)) + x2)) g0).bind fun r5 => (if r5 = 0 then (cond (zi_ix (zi_w (120 + x1)) 422) (some (1, (zv_up (zv_up g0 127 (zi_or (g0 127) (zi_shl 1 x1))) (zi_w (120 + x1)) (zi_w ((zi_w (24 * x3)) + x2))))) none) else (some (0, g0)))))))
theorem zd211_0 : decode zxm211.2.1 0 = .ok (.iload_n 1, 1) := by decide +kernel
theorem zd211_1 : decode zxm211.2.1 1 = .ok (.iconst 0, 1) := by decide +kernel
theorem zd211_2 : decode zxm211.2.1 2 = .ok (.iconst 5, 1) := by decide +kernel
theorem zd211_3 : decode zxm211.2.1 3 = .ok (.invokestatic 150, 3) := by decide +kernel
theorem zd211_6 : decode zxm211.2.1 6 = .ok (.ifCond .eq 24, 3) := by decide +kernel
theorem zd211_9 : decode zxm211.2.1 9 = .ok (.iload_n 2, 1) := by decide +kernel
theorem zd211_10 : decode zxm211.2.1 10 = .ok (.iload_n 3, 1) := by decide +kernel
theorem zd211_11 : decode zxm211.2.1 11 = .ok (.invokestatic 154, 3) := by decide +kernel
theorem zd211_14 : decode zxm211.2.1 14 = .ok (.ifCond .eq 16, 3) := by decide +kernel
theorem zd211_17 : decode zxm211.2.1 17 = .ok (.aload_n 0, 1) := by decide +kernel
theorem zd211_18 : decode zxm211.2.1 18 = .ok (.bipush 24, 2) := by decide +kernel
theorem zd211_20 : decode zxm211.2.1 20 = .ok (.iload_n 3, 1) := by decide +kernel
theorem zd211_21 : decode zxm211.2.1 21 = .ok (.imul, 1) := by decide +kernel
theorem zd211_22 : decode zxm211.2.1 22 = .ok (.iload_n 2, 1) := by decide +kernel
theorem zd211_23 : decode zxm211.2.1 23 = .ok (.iadd, 1) := by decide +kernel
theorem zd211_24 : decode zxm211.2.1 24 = .ok (.invokevirtual 165, 3) := by decide +kernel
theorem zd211_27 : decode zxm211.2.1 27 = .ok (.ifCond .eq 5, 3) := by decide +kernel
theorem zd211_30 : decode zxm211.2.1 30 = .ok (.iconst 0, 1) := by decide +kernel
theorem zd211_31 : decode zxm211.2.1 31 = .ok (.ireturn, 1) := by decide +kernel
theorem zd211_32 : decode zxm211.2.1 32 = .ok (.aload_n 0, 1) := by decide +kernel
theorem zd211_33 : decode zxm211.2.1 33 = .ok (.getfield 7, 3) := by decide +kernel
theorem zd211_36 : decode zxm211.2.1 36 = .ok (.bipush 127, 2) := by decide +kernel
theorem zd211_38 : decode zxm211.2.1 38 = .ok (.aload_n 0, 1) := by decide +kernel
theorem zd211_39 : decode zxm211.2.1 39 = .ok (.getfield 7, 3) := by decide +kernel
theorem zd211_42 : decode zxm211.2.1 42 = .ok (.bipush 127, 2) := by decide +kernel
theorem zd211_44 : decode zxm211.2.1 44 = .ok (.iaload, 1) := by decide +kernel
theorem zd211_45 : decode zxm211.2.1 45 = .ok (.iconst 1, 1) := by decide +kernel
theorem zd211_46 : decode zxm211.2.1 46 = .ok (.iload_n 1, 1) := by decide +kernel
theorem zd211_47 : decode zxm211.2.1 47 = .ok (.ishl, 1) := by decide +kernel
theorem zd211_48 : decode zxm211.2.1 48 = .ok (.ior, 1) := by decide +kernel
theorem zd211_49 : decode zxm211.2.1 49 = .ok (.iastore, 1) := by decide +kernel
theorem zd211_50 : decode zxm211.2.1 50 = .ok (.aload_n 0, 1) := by decide +kernel
theorem zd211_51 : decode zxm211.2.1 51 = .ok (.getfield 7, 3) := by decide +kernel
theorem zd211_54 : decode zxm211.2.1 54 = .ok (.bipush 120, 2) := by decide +kernel
theorem zd211_56 : decode zxm211.2.1 56 = .ok (.iload_n 1, 1) := by decide +kernel
theorem zd211_57 : decode zxm211.2.1 57 = .ok (.iadd, 1) := by decide +kernel
theorem zd211_58 : decode zxm211.2.1 58 = .ok (.bipush 24, 2) := by decide +kernel
theorem zd211_60 : decode zxm211.2.1 60 = .ok (.iload_n 3, 1) := by decide +kernel
theorem zd211_61 : decode zxm211.2.1 61 = .ok (.imul, 1) := by decide +kernel
theorem zd211_62 : decode zxm211.2.1 62 = .ok (.iload_n 2, 1) := by decide +kernel
theorem zd211_63 : decode zxm211.2.1 63 = .ok (.iadd, 1) := by decide +kernel
theorem zd211_64 : decode zxm211.2.1 64 = .ok (.iastore, 1) := by decide +kernel
theorem zd211_65 : decode zxm211.2.1 65 = .ok (.iconst 1, 1) := by decide +kernel
theorem zd211_66 : decode zxm211.2.1 66 = .ok (.ireturn, 1) := by decide +kernel
theorem zt_M_ship {x1 : Int} {x2 : Int} {x3 : Int} {g0 : (Int → Int)} {o : Int × (Int → Int)} (h : zf_M_ship x1 x2 x3 g0 = some o) : zv_Fn z_TB z_cl z_KX zy_M_ship zxm211 (1, 60) [.inr 0, .inl x1, .inl x2, .inl x3] [] [g0] (some o.1) [] [o.2] := zv_meth (K := (z_KF13, z_KC13, z_KL13, z_KT13, [], [], [], none)) (FT := z_FT) (MT := z_MT) (n := 4) zxp211 (z_ks13 _ (fun _ h => List.mem_cons_of_mem _ h) _ _ _ _ (fun j r h _ => by cases h)) (fun _ _ => zs_KX_p) zyw_M_ship (fun va F G h => by obtain ⟨rfl, _⟩ := h; rfl) (fun va F G h => by obtain ⟨rfl, _⟩ := h; rfl) rfl fun good va F G hB hret hvret hP => by
  obtain ⟨rfl, rfl, rfl⟩ := hP
  unfold zf_M_ship at h
  refine zv_ild hB zd211_0 rfl rfl ?_
  refine zv_con hB zd211_1 rfl ?_
  refine zv_con hB zd211_2 rfl ?_
  obtain ⟨r1, hr1, h⟩ := zi_bind h
  refine zv_cs hB (zv_emq (va2 := [.inl x1, .inl 0, .inl 5]) (F := []) (F' := []) (G := [g0]) (G' := [g0]) (ρ := []) (φ := []) (ψ := []) [] [none] zyw_M_in zyw_M_ship zye_M_ship (by decide +kernel) (zt_M_in hr1) trivial trivial rfl rfl rfl rfl rfl rfl rfl) zd211_3 zxt200 rfl (by decide) (by decide) rfl ?_
  refine zv_zeq hB zd211_6 rfl (fun hc2 => ?_) (fun hc2 => ?_)
  · rw [if_pos hc2] at h
    refine zv_con hB zd211_30 rfl ?_
    have hw := Option.some.inj h
    subst hw
    exact hret _ _ _ _ _ zd211_31 (by constructor <;> decide) ⟨rfl, rfl, rfl⟩
  · rw [if_neg hc2] at h
    refine zv_ild hB zd211_9 rfl rfl ?_
    refine zv_ild hB zd211_10 rfl rfl ?_
    obtain ⟨r3, hr3, h⟩ := zi_bind h
    refine zv_cs hB (zv_emq (va2 := [.inl x2, .inl x3]) (F := []) (F' := []) (G := [g0]) (G' := [g0]) (ρ := []) (φ := []) (ψ := []) [] [none] zyw_M_isPlace zyw_M_ship zye_M_ship (by decide +kernel) (zt_M_isPlace hr3) trivial trivial rfl rfl rfl rfl rfl rfl rfl) zd211_11 zxt201 rfl (by decide) (by decide) rfl ?_
    refine zv_zeq hB zd211_14 rfl (fun hc4 => ?_) (fun hc4 => ?_)
    · rw [if_pos hc4] at h
      refine zv_con hB zd211_30 rfl ?_
      have hw := Option.some.inj h
      subst hw
      exact hret _ _ _ _ _ zd211_31 (by constructor <;> decide) ⟨rfl, rfl, rfl⟩
    · rw [if_neg hc4] at h
      refine zv_ald hB zd211_17 rfl rfl rfl ?_
      refine zv_con hB zd211_18 rfl ?_
      refine zv_ild hB zd211_20 rfl rfl ?_
      refine zv_mulw hB zd211_21 ?_
      refine zv_ild hB zd211_22 rfl rfl ?_
      refine zv_addw hB zd211_23 ?_
      obtain ⟨r5, hr5, h⟩ := zi_bind h
      refine zv_cv hB (zv_emq (va2 := [.inr 0, .inl (zi_w ((zi_w (24 * x3)) + x2))]) (F := []) (F' := []) (G := [g0]) (G' := [g0]) (ρ := [0, 1]) (φ := []) (ψ := [0]) [] [some 0] zyw_M_isLand zyw_M_ship zye_M_ship (by decide +kernel) (zt_M_isLand hr5) trivial ⟨rfl, trivial⟩ rfl rfl rfl rfl rfl rfl rfl) zd211_24 zxt212 rfl (by decide) (by decide) rfl ?_
      refine zv_zeq hB zd211_27 rfl (fun hc6 => ?_) (fun hc6 => ?_)
      · rw [if_pos hc6] at h
        refine zv_ald hB zd211_32 rfl rfl rfl ?_
        refine zv_getr hB zd211_33 rfl ?_
        refine zv_con hB zd211_36 rfl ?_
        refine zv_ald hB zd211_38 rfl rfl rfl ?_
        refine zv_getr hB zd211_39 rfl ?_
        refine zv_con hB zd211_42 rfl ?_
        refine zv_iald hB zd211_44 rfl rfl (by decide) (by decide) (fun _ _ => ?_)
        refine zv_con hB zd211_45 rfl ?_
        refine zv_ild hB zd211_46 rfl rfl ?_
        refine zv_shlw hB zd211_47 ?_
        refine zv_orw hB zd211_48 ?_
        refine zv_iast hB zd211_49 rfl rfl (by decide) (by decide) ?_
        refine zv_ald hB zd211_50 rfl rfl rfl ?_
        refine zv_getr hB zd211_51 rfl ?_
        refine zv_con hB zd211_54 rfl ?_
        refine zv_ild hB zd211_56 rfl rfl ?_
        refine zv_addw hB zd211_57 ?_
        refine zv_con hB zd211_58 rfl ?_
        refine zv_ild hB zd211_60 rfl rfl ?_
        refine zv_mulw hB zd211_61 ?_
        refine zv_ild hB zd211_62 rfl rfl ?_
        refine zv_addw hB zd211_63 ?_
        obtain ⟨c7, h⟩ := zi_if h
        refine zv_iast hB zd211_64 rfl rfl (zi_ix_ok c7).1 (zi_ix_ok c7).2 ?_
        refine zv_con hB zd211_65 rfl ?_
        have hw := Option.some.inj h
        subst hw
        exact hret _ _ _ _ _ zd211_66 (by constructor <;> decide) ⟨rfl, rfl, rfl⟩
      · rw [if_neg hc6] at h
        refine zv_con hB zd211_30 rfl ?_
        have hw := Option.some.inj h
        subst hw
        exact hret _ _ _ _ _ zd211_31 (by constructor <;> decide) ⟨rfl, rfl, rfl⟩
/-! M_types (I)V -/
-- names: 0 StarTalesModel('arg', 0), 1 (1, 220)(0, 12, 3)
-- fields: f0 = 0.taped_; arrays: g0 = 1; out: [('f', 0), ('g', 0)]
abbrev zy_M_types : zNL := (2, [(0, 12)], [(0, 12, 4, 0)], [(0, 12, 3, 1)], [(1, 1, 220, 0)])
theorem zyw_M_types : zv_wf zy_M_types = true := by decide +kernel
theorem zye_M_types : zv_ek2 zy_M_types = true := by decide +kernel
def zf_M_types_l0_b (x1 : Int) (rec : Int → Int → (Int → Int) → Option (Int × (Int → Int))) (x2 : Int) (f0 : Int) (g0 : (Int → Int)) : Option (Int × (Int → Int)) := if x2 < 0 then (some (f0, g0)) else (cond (zi_ix f0 220) (rec (zi_w (x2 + (-1))) (zi_w (f0 + 1)) (zv_up g0 f0 (zi_by (zi_by (zi_shr x1 (zi_w (8 * x2))))))) none)
def zf_M_types_l0 (x1 : Int) : Nat → Int → Int → (Int → Int) → Option (Int × (Int → Int))
  | 0, _, _, _ => none
  | n + 1, x2, f0, g0 => zf_M_types_l0_b x1 (zf_M_types_l0 x1 n) x2 f0 g0
def zf_M_types (x1 : Int) (f0 : Int) (g0 : (Int → Int)) : Option (Int × (Int → Int)) := (zf_M_types_l0 x1 zi_fu 3 f0 g0).bind fun q3 => (some (q3.1, q3.2))
theorem zd214_0 : decode zxm214.2.1 0 = .ok (.iconst 3, 1) := by decide +kernel
theorem zd214_1 : decode zxm214.2.1 1 = .ok (.istore_n 2, 1) := by decide +kernel
theorem zd214_2 : decode zxm214.2.1 2 = .ok (.iload_n 2, 1) := by decide +kernel
theorem zd214_3 : decode zxm214.2.1 3 = .ok (.ifCond .lt 35, 3) := by decide +kernel
theorem zd214_6 : decode zxm214.2.1 6 = .ok (.aload_n 0, 1) := by decide +kernel
theorem zd214_7 : decode zxm214.2.1 7 = .ok (.getfield 19, 3) := by decide +kernel
theorem zd214_10 : decode zxm214.2.1 10 = .ok (.aload_n 0, 1) := by decide +kernel
theorem zd214_11 : decode zxm214.2.1 11 = .ok (.getfield 168, 3) := by decide +kernel
theorem zd214_14 : decode zxm214.2.1 14 = .ok (.iload_n 1, 1) := by decide +kernel
theorem zd214_15 : decode zxm214.2.1 15 = .ok (.bipush 8, 2) := by decide +kernel
theorem zd214_17 : decode zxm214.2.1 17 = .ok (.iload_n 2, 1) := by decide +kernel
theorem zd214_18 : decode zxm214.2.1 18 = .ok (.imul, 1) := by decide +kernel
theorem zd214_19 : decode zxm214.2.1 19 = .ok (.ishr, 1) := by decide +kernel
theorem zd214_20 : decode zxm214.2.1 20 = .ok (.i2b, 1) := by decide +kernel
theorem zd214_21 : decode zxm214.2.1 21 = .ok (.bastore, 1) := by decide +kernel
theorem zd214_22 : decode zxm214.2.1 22 = .ok (.aload_n 0, 1) := by decide +kernel
theorem zd214_23 : decode zxm214.2.1 23 = .ok (.aload_n 0, 1) := by decide +kernel
theorem zd214_24 : decode zxm214.2.1 24 = .ok (.getfield 168, 3) := by decide +kernel
theorem zd214_27 : decode zxm214.2.1 27 = .ok (.iconst 1, 1) := by decide +kernel
theorem zd214_28 : decode zxm214.2.1 28 = .ok (.iadd, 1) := by decide +kernel
theorem zd214_29 : decode zxm214.2.1 29 = .ok (.putfield 168, 3) := by decide +kernel
theorem zd214_32 : decode zxm214.2.1 32 = .ok (.iinc 2 (-1), 3) := by decide +kernel
theorem zd214_35 : decode zxm214.2.1 35 = .ok (.goto (-33), 3) := by decide +kernel
theorem zd214_38 : decode zxm214.2.1 38 = .ok (.return_, 1) := by decide +kernel
theorem zt_M_types {x1 : Int} {f0 : Int} {g0 : (Int → Int)} {o : Int × (Int → Int)} (h : zf_M_types x1 f0 g0 = some o) : zv_Fn z_TB z_cl z_KX zy_M_types zxm214 (0, 0) [.inr 0, .inl x1] [.inl f0] [g0] none [.inl o.1] [o.2] := zv_meth (K := (z_KF13, z_KC13, z_KL13, z_KT13, [], [], [], none)) (FT := z_FT) (MT := z_MT) (n := 2) zxp214 (z_ks13 _ (fun _ h => List.mem_cons_of_mem _ h) _ _ _ _ (fun j r h _ => by cases h)) (fun _ _ => zs_KX_p) zyw_M_types (fun va F G h => by obtain ⟨rfl, _⟩ := h; rfl) (fun va F G h => by obtain ⟨rfl, _⟩ := h; rfl) rfl fun good va F G hB hret hvret hP => by
  obtain ⟨rfl, rfl, rfl⟩ := hP
  have l0 : ∀ (n : Nat) (x1 : Int) (x2 : Int) (f0 : Int) (g0 : (Int → Int)) (q : Int × (Int → Int)), zf_M_types_l0 x1 n x2 f0 g0 = some q → (good 38 [.inr 1000, .inr 1000, .inr 1000] [] [.inl q.1] [q.2]) → good 2 [.inr 0, .inl x1, .inl x2] [] [.inl f0] [g0] := by
    intro n
    induction n with
    | zero => intro x1 x2 f0 g0 q h; exact absurd (show none = some q from h) (fun h => by cases h)
    | succ n ih =>
      intro x1 x2 f0 g0 q h hK
      replace h : zf_M_types_l0_b x1 (zf_M_types_l0 x1 n) x2 f0 g0 = some q := h
      unfold zf_M_types_l0_b at h
      refine zv_ild hB zd214_2 rfl rfl ?_
      refine zv_zlt hB zd214_3 rfl (fun hc1 => ?_) (fun hc1 => ?_)
      · rw [if_pos hc1] at h
        have hq := Option.some.inj h
        subst hq
        refine zv_wk hB (L' := [.inr 1000, .inr 1000, .inr 1000]) (F' := [.inl f0]) ⟨fun (h : zv_is (.inr 1000)) => (Nat.lt_irrefl 1000 h).elim, fun (h : zv_is (.inr 1000)) => (Nat.lt_irrefl 1000 h).elim, fun (h : zv_is (.inr 1000)) => (Nat.lt_irrefl 1000 h).elim, trivial⟩ ⟨fun _ => rfl, trivial⟩ ?_
        exact hK
      · rw [if_neg (Int.not_lt.mpr hc1)] at h
        refine zv_ald hB zd214_6 rfl rfl rfl ?_
        refine zv_getr hB zd214_7 rfl ?_
        refine zv_ald hB zd214_10 rfl rfl rfl ?_
        refine zv_getf hB zd214_11 rfl rfl (fun _ _ => ?_)
        refine zv_ild hB zd214_14 rfl rfl ?_
        refine zv_con hB zd214_15 rfl ?_
        refine zv_ild hB zd214_17 rfl rfl ?_
        refine zv_mulw hB zd214_18 ?_
        refine zv_shrw hB zd214_19 ?_
        refine zv_i2b hB zd214_20 ?_
        obtain ⟨c2, h⟩ := zi_if h
        refine zv_bast hB zd214_21 rfl rfl (zi_ix_ok c2).1 (zi_ix_ok c2).2 ?_
        refine zv_ald hB zd214_22 rfl rfl rfl ?_
        refine zv_ald hB zd214_23 rfl rfl rfl ?_
        refine zv_getf hB zd214_24 rfl rfl (fun _ _ => ?_)
        refine zv_con hB zd214_27 rfl ?_
        refine zv_addw hB zd214_28 ?_
        refine zv_putf hB zd214_29 rfl rfl (fun h => by cases h) rfl ?_
        refine zv_iincw hB zd214_32 rfl rfl ?_
        refine zv_goto hB zd214_35 rfl ?_
        exact ih _ _ _ _ q h hK
  unfold zf_M_types at h
  refine zv_con hB zd214_0 rfl ?_
  refine zv_ist hB zd214_1 rfl rfl rfl ?_
  obtain ⟨q3, hq3, h⟩ := zi_bind h
  refine l0 _ _ _ _ _ q3 hq3 ?_
  show good 38 [.inr 1000, .inr 1000, .inr 1000] [] [.inl q3.1] [q3.2]
  have hw := Option.some.inj h
  subst hw
  exact hvret _ _ _ _ zd214_38 trivial ⟨rfl, rfl, rfl⟩
/-! M_feed (IIIII)I -/
-- names: 0 StarTalesModel('arg', 0), 1 (1, 220)(0, 12, 3)
-- fields: f0 = 0.taped_; arrays: g0 = 1; out: [('ret', None), ('f', 0), ('g', 0)]
abbrev zy_M_feed : zNL := (2, [(0, 12)], [(0, 12, 4, 0)], [(0, 12, 3, 1)], [(1, 1, 220, 0)])
theorem zyw_M_feed : zv_wf zy_M_feed = true := by decide +kernel
theorem zye_M_feed : zv_ek2 zy_M_feed = true := by decide +kernel
def zf_M_feed (x1 : Int) (x2 : Int) (x3 : Int) (x4 : Int) (x5 : Int) (f0 : Int) (g0 : (Int → Int)) : Option (Int × Int × (Int → Int)) := if 220 < (zi_w (f0 + 20)) then (some ((-1), f0, g0)) else ((zf_M_types x1 f0 g0).bind fun r2 => ((zf_M_types x2 r2.1 r2.2).bind fun r3 => ((zf_M_types x3 r3.1 r3.2).bind fun r4 => ((zf_M_types x4 r4.1 r4.2).bind fun r5 => ((zf_M_types x5 r5.1 r5.2).bind fun r6 => (some (r6.1, r6.1, r6.2)))))))
theorem zd213_0 : decode zxm213.2.1 0 = .ok (.aload_n 0, 1) := by decide +kernel
theorem zd213_1 : decode zxm213.2.1 1 = .ok (.getfield 168, 3) := by decide +kernel
theorem zd213_4 : decode zxm213.2.1 4 = .ok (.bipush 20, 2) := by decide +kernel
theorem zd213_6 : decode zxm213.2.1 6 = .ok (.iadd, 1) := by decide +kernel
theorem zd213_7 : decode zxm213.2.1 7 = .ok (.sipush 220, 3) := by decide +kernel
theorem zd213_10 : decode zxm213.2.1 10 = .ok (.if_icmp .le 5, 3) := by decide +kernel
theorem zd213_13 : decode zxm213.2.1 13 = .ok (.iconst (-1), 1) := by decide +kernel
theorem zd213_14 : decode zxm213.2.1 14 = .ok (.ireturn, 1) := by decide +kernel
theorem zd213_15 : decode zxm213.2.1 15 = .ok (.aload_n 0, 1) := by decide +kernel
theorem zd213_16 : decode zxm213.2.1 16 = .ok (.iload_n 1, 1) := by decide +kernel
theorem zd213_17 : decode zxm213.2.1 17 = .ok (.invokevirtual 172, 3) := by decide +kernel
theorem zd213_20 : decode zxm213.2.1 20 = .ok (.aload_n 0, 1) := by decide +kernel
theorem zd213_21 : decode zxm213.2.1 21 = .ok (.iload_n 2, 1) := by decide +kernel
theorem zd213_22 : decode zxm213.2.1 22 = .ok (.invokevirtual 172, 3) := by decide +kernel
theorem zd213_25 : decode zxm213.2.1 25 = .ok (.aload_n 0, 1) := by decide +kernel
theorem zd213_26 : decode zxm213.2.1 26 = .ok (.iload_n 3, 1) := by decide +kernel
theorem zd213_27 : decode zxm213.2.1 27 = .ok (.invokevirtual 172, 3) := by decide +kernel
theorem zd213_30 : decode zxm213.2.1 30 = .ok (.aload_n 0, 1) := by decide +kernel
theorem zd213_31 : decode zxm213.2.1 31 = .ok (.iload 4, 2) := by decide +kernel
theorem zd213_33 : decode zxm213.2.1 33 = .ok (.invokevirtual 172, 3) := by decide +kernel
theorem zd213_36 : decode zxm213.2.1 36 = .ok (.aload_n 0, 1) := by decide +kernel
theorem zd213_37 : decode zxm213.2.1 37 = .ok (.iload 5, 2) := by decide +kernel
theorem zd213_39 : decode zxm213.2.1 39 = .ok (.invokevirtual 172, 3) := by decide +kernel
theorem zd213_42 : decode zxm213.2.1 42 = .ok (.aload_n 0, 1) := by decide +kernel
theorem zd213_43 : decode zxm213.2.1 43 = .ok (.getfield 168, 3) := by decide +kernel
theorem zd213_46 : decode zxm213.2.1 46 = .ok (.ireturn, 1) := by decide +kernel
theorem zt_M_feed {x1 : Int} {x2 : Int} {x3 : Int} {x4 : Int} {x5 : Int} {f0 : Int} {g0 : (Int → Int)} {o : Int × Int × (Int → Int)} (h : zf_M_feed x1 x2 x3 x4 x5 f0 g0 = some o) : zv_Fn z_TB z_cl z_KX zy_M_feed zxm213 (1, 60) [.inr 0, .inl x1, .inl x2, .inl x3, .inl x4, .inl x5] [.inl f0] [g0] (some o.1) [.inl o.2.1] [o.2.2] := zv_meth (K := (z_KF13, z_KC13, z_KL13, z_KT13, [], [], [], none)) (FT := z_FT) (MT := z_MT) (n := 6) zxp213 (z_ks13 _ (fun _ h => List.mem_cons_of_mem _ h) _ _ _ _ (fun j r h _ => by cases h)) (fun _ _ => zs_KX_p) zyw_M_feed (fun va F G h => by obtain ⟨rfl, _⟩ := h; rfl) (fun va F G h => by obtain ⟨rfl, _⟩ := h; rfl) rfl fun good va F G hB hret hvret hP => by
  obtain ⟨rfl, rfl, rfl⟩ := hP
  unfold zf_M_feed at h
  refine zv_ald hB zd213_0 rfl rfl rfl ?_
  refine zv_getf hB zd213_1 rfl rfl (fun _ _ => ?_)
  refine zv_con hB zd213_4 rfl ?_
  refine zv_addw hB zd213_6 ?_
  refine zv_con hB zd213_7 rfl ?_
  refine zv_cle hB zd213_10 rfl (fun hc1 => ?_) (fun hc1 => ?_)
  · rw [if_neg (Int.not_lt.mpr hc1)] at h
    refine zv_ald hB zd213_15 rfl rfl rfl ?_
    refine zv_ild hB zd213_16 rfl rfl ?_
    obtain ⟨r2, hr2, h⟩ := zi_bind h
    refine zv_cv hB (zv_emq (va2 := [.inr 0, .inl x1]) (F := [.inl f0]) (F' := [.inl r2.1]) (G := [g0]) (G' := [r2.2]) (ρ := [0, 1]) (φ := [0]) (ψ := [0]) [some 0] [some 0] zyw_M_types zyw_M_feed zye_M_feed (by decide +kernel) (zt_M_types hr2) ⟨⟨_, rfl, fun _ => rfl⟩, trivial⟩ ⟨rfl, trivial⟩ rfl rfl rfl rfl rfl rfl rfl) zd213_17 zxt214 rfl (by decide) (by decide) rfl ?_
    refine zv_ald hB zd213_20 rfl rfl rfl ?_
    refine zv_ild hB zd213_21 rfl rfl ?_
    obtain ⟨r3, hr3, h⟩ := zi_bind h
    refine zv_cv hB (zv_emq (va2 := [.inr 0, .inl x2]) (F := [.inl r2.1]) (F' := [.inl r3.1]) (G := [r2.2]) (G' := [r3.2]) (ρ := [0, 1]) (φ := [0]) (ψ := [0]) [some 0] [some 0] zyw_M_types zyw_M_feed zye_M_feed (by decide +kernel) (zt_M_types hr3) ⟨⟨_, rfl, fun _ => rfl⟩, trivial⟩ ⟨rfl, trivial⟩ rfl rfl rfl rfl rfl rfl rfl) zd213_22 zxt214 rfl (by decide) (by decide) rfl ?_
    refine zv_ald hB zd213_25 rfl rfl rfl ?_
    refine zv_ild hB zd213_26 rfl rfl ?_
    obtain ⟨r4, hr4, h⟩ := zi_bind h
    refine zv_cv hB (zv_emq (va2 := [.inr 0, .inl x3]) (F := [.inl r3.1]) (F' := [.inl r4.1]) (G := [r3.2]) (G' := [r4.2]) (ρ := [0, 1]) (φ := [0]) (ψ := [0]) [some 0] [some 0] zyw_M_types zyw_M_feed zye_M_feed (by decide +kernel) (zt_M_types hr4) ⟨⟨_, rfl, fun _ => rfl⟩, trivial⟩ ⟨rfl, trivial⟩ rfl rfl rfl rfl rfl rfl rfl) zd213_27 zxt214 rfl (by decide) (by decide) rfl ?_
    refine zv_ald hB zd213_30 rfl rfl rfl ?_
    refine zv_ild hB zd213_31 rfl rfl ?_
    obtain ⟨r5, hr5, h⟩ := zi_bind h
    refine zv_cv hB (zv_emq (va2 := [.inr 0, .inl x4]) (F := [.inl r4.1]) (F' := [.inl r5.1]) (G := [r4.2]) (G' := [r5.2]) (ρ := [0, 1]) (φ := [0]) (ψ := [0]) [some 0] [some 0] zyw_M_types zyw_M_feed zye_M_feed (by decide +kernel) (zt_M_types hr5) ⟨⟨_, rfl, fun _ => rfl⟩, trivial⟩ ⟨rfl, trivial⟩ rfl rfl rfl rfl rfl rfl rfl) zd213_33 zxt214 rfl (by decide) (by decide) rfl ?_
    refine zv_ald hB zd213_36 rfl rfl rfl ?_
    refine zv_ild hB zd213_37 rfl rfl ?_
    obtain ⟨r6, hr6, h⟩ := zi_bind h
    refine zv_cv hB (zv_emq (va2 := [.inr 0, .inl x5]) (F := [.inl r5.1]) (F' := [.inl r6.1]) (G := [r5.2]) (G' := [r6.2]) (ρ := [0, 1]) (φ := [0]) (ψ := [0]) [some 0] [some 0] zyw_M_types zyw_M_feed zye_M_feed (by decide +kernel) (zt_M_types hr6) ⟨⟨_, rfl, fun _ => rfl⟩, trivial⟩ ⟨rfl, trivial⟩ rfl rfl rfl rfl rfl rfl rfl) zd213_39 zxt214 rfl (by decide) (by decide) rfl ?_
    refine zv_ald hB zd213_42 rfl rfl rfl ?_
    refine zv_getf hB zd213_43 rfl rfl (fun _ _ => ?_)
    have hw := Option.some.inj h
    subst hw
    exact hret _ _ _ _ _ zd213_46 (by trivial) ⟨rfl, rfl, rfl⟩
  · rw [if_pos hc1] at h
    refine zv_con hB zd213_13 rfl ?_
    have hw := Option.some.inj h
    subst hw
    exact hret _ _ _ _ _ zd213_14 (by trivial) ⟨rfl, rfl, rfl⟩
/-! M_here ()I -/
-- names: 0 StarTalesModel('arg', 0), 1 (1, 220)(0, 12, 3)
-- fields: f0 = 0.place0_, f1 = 0.length0_; arrays: g0 = 1; out: [('ret', None)]
abbrev zy_M_here : zNL := (2, [(0, 12)], [(0, 12, 5, 0), (0, 12, 6, 1)], [(0, 12, 3, 1)], [(1, 1, 220, 0)])
theorem zyw_M_here : zv_wf zy_M_here = true := by decide +kernel
theorem zye_M_here : zv_ek2 zy_M_here = true := by decide +kernel
def zf_M_here (f0 : Int) (f1 : Int) (g0 : (Int → Int)) : Option (Int) := if f0 < f1 then (cond (zi_ix f0 220) (some (zi_and (g0 f0) 255)) none) else (some (-1))
theorem zd217_0 : decode zxm217.2.1 0 = .ok (.aload_n 0, 1) := by decide +kernel
theorem zd217_1 : decode zxm217.2.1 1 = .ok (.getfield 176, 3) := by decide +kernel
theorem zd217_4 : decode zxm217.2.1 4 = .ok (.aload_n 0, 1) := by decide +kernel
theorem zd217_5 : decode zxm217.2.1 5 = .ok (.getfield 179, 3) := by decide +kernel
theorem zd217_8 : decode zxm217.2.1 8 = .ok (.if_icmp .ge 19, 3) := by decide +kernel
theorem zd217_11 : decode zxm217.2.1 11 = .ok (.aload_n 0, 1) := by decide +kernel
theorem zd217_12 : decode zxm217.2.1 12 = .ok (.getfield 19, 3) := by decide +kernel
theorem zd217_15 : decode zxm217.2.1 15 = .ok (.aload_n 0, 1) := by decide +kernel
theorem zd217_16 : decode zxm217.2.1 16 = .ok (.getfield 176, 3) := by decide +kernel
theorem zd217_19 : decode zxm217.2.1 19 = .ok (.baload, 1) := by decide +kernel
theorem zd217_20 : decode zxm217.2.1 20 = .ok (.sipush 255, 3) := by decide +kernel
theorem zd217_23 : decode zxm217.2.1 23 = .ok (.iand, 1) := by decide +kernel
theorem zd217_24 : decode zxm217.2.1 24 = .ok (.goto 4, 3) := by decide +kernel
theorem zd217_27 : decode zxm217.2.1 27 = .ok (.iconst (-1), 1) := by decide +kernel
theorem zd217_28 : decode zxm217.2.1 28 = .ok (.ireturn, 1) := by decide +kernel
theorem zt_M_here {f0 : Int} {f1 : Int} {g0 : (Int → Int)} {o : Int} (h : zf_M_here f0 f1 g0 = some o) : zv_Fn z_TB z_cl z_KX zy_M_here zxm217 (0, 0) [.inr 0] [.inl f0, .inl f1] [g0] (some o) [.inl f0, .inl f1] [g0] := zv_meth (K := (z_KF13, z_KC13, z_KL13, z_KT13, [], [], [], none)) (FT := z_FT) (MT := z_MT) (n := 1) zxp217 (z_ks13 _ (fun _ h => List.mem_cons_of_mem _ h) _ _ _ _ (fun j r h _ => by cases h)) (fun _ _ => zs_KX_p) zyw_M_here (fun va F G h => by obtain ⟨rfl, _⟩ := h; rfl) (fun va F G h => by obtain ⟨rfl, _⟩ := h; rfl) rfl fun good va F G hB hret hvret hP => by
  obtain ⟨rfl, rfl, rfl⟩ := hP
  unfold zf_M_here at h
  refine zv_ald hB zd217_0 rfl rfl rfl ?_
  refine zv_getf hB zd217_1 rfl rfl (fun _ _ => ?_)
  refine zv_ald hB zd217_4 rfl rfl rfl ?_
  refine zv_getf hB zd217_5 rfl rfl (fun _ _ => ?_)
  refine zv_cge hB zd217_8 rfl (fun hc1 => ?_) (fun hc1 => ?_)
  · rw [if_neg (Int.not_lt.mpr hc1)] at h
    refine zv_con hB zd217_27 rfl ?_
    have hw := Option.some.inj h
    subst hw
    exact hret _ _ _ _ _ zd217_28 (by trivial) ⟨rfl, rfl, rfl⟩
  · rw [if_pos hc1] at h
    refine zv_ald hB zd217_11 rfl rfl rfl ?_
    refine zv_getr hB zd217_12 rfl ?_
    refine zv_ald hB zd217_15 rfl rfl rfl ?_
    refine zv_getf hB zd217_16 rfl rfl (fun _ _ => ?_)
    obtain ⟨c2, h⟩ := zi_if h
    refine zv_bald hB zd217_19 rfl rfl (zi_ix_ok c2).1 (zi_ix_ok c2).2 (fun _ _ => ?_)
    refine zv_con hB zd217_20 rfl ?_
    refine zv_andw hB zd217_23 ?_
    refine zv_goto hB zd217_24 rfl ?_
    have hw := Option.some.inj h
    subst hw
    exact hret _ _ _ _ _ zd217_28 (by trivial) ⟨rfl, rfl, rfl⟩
/-! M_isClause (I)Z -/
-- names: 
-- fields: ; arrays: ; out: [('ret', None)]
abbrev zy_M_isClause : zNL := (0, [], [], [], [])
theorem zyw_M_isClause : zv_wf zy_M_isClause = true := by decide +kernel
theorem zye_M_isClause : zv_ek2 zy_M_isClause = true := by decide +kernel
def zf_M_isClause (x0 : Int) : Option (Int) := if x0 = 118 then (some 1) else (if x0 = 106 then (some 1) else (if x0 = 119 then (some 1) else (if x0 = 103 then (some 1) else (if x0 = 113 then (some 1) else (some 0)))))
theorem zd218_0 : decode zxm218.2.1 0 = .ok (.iload_n 0, 1) := by decide +kernel
theorem zd218_1 : decode zxm218.2.1 1 = .ok (.bipush 118, 2) := by decide +kernel
theorem zd218_3 : decode zxm218.2.1 3 = .ok (.if_icmp .eq 27, 3) := by decide +kernel
theorem zd218_6 : decode zxm218.2.1 6 = .ok (.iload_n 0, 1) := by decide +kernel
theorem zd218_7 : decode zxm218.2.1 7 = .ok (.bipush 106, 2) := by decide +kernel
theorem zd218_9 : decode zxm218.2.1 9 = .ok (.if_icmp .eq 21, 3) := by decide +kernel
theorem zd218_12 : decode zxm218.2.1 12 = .ok (.iload_n 0, 1) := by decide +kernel
theorem zd218_13 : decode zxm218.2.1 13 = .ok (.bipush 119, 2) := by decide +kernel
theorem zd218_15 : decode zxm218.2.1 15 = .ok (.if_icmp .eq 15, 3) := by decide +kernel
theorem zd218_18 : decode zxm218.2.1 18 = .ok (.iload_n 0, 1) := by decide +kernel
theorem zd218_19 : decode zxm218.2.1 19 = .ok (.bipush 103, 2) := by decide +kernel
theorem zd218_21 : decode zxm218.2.1 21 = .ok (.if_icmp .eq 9, 3) := by decide +kernel
theorem zd218_24 : decode zxm218.2.1 24 = .ok (.iload_n 0, 1) := by decide +kernel
theorem zd218_25 : decode zxm218.2.1 25 = .ok (.bipush 113, 2) := by decide +kernel
theorem zd218_27 : decode zxm218.2.1 27 = .ok (.if_icmp .ne 7, 3) := by decide +kernel
theorem zd218_30 : decode zxm218.2.1 30 = .ok (.iconst 1, 1) := by decide +kernel
theorem zd218_31 : decode zxm218.2.1 31 = .ok (.goto 4, 3) := by decide +kernel
theorem zd218_34 : decode zxm218.2.1 34 = .ok (.iconst 0, 1) := by decide +kernel
theorem zd218_35 : decode zxm218.2.1 35 = .ok (.ireturn, 1) := by decide +kernel
theorem zt_M_isClause {x0 : Int} {o : Int} (h : zf_M_isClause x0 = some o) : zv_Fn z_TB z_cl z_KX zy_M_isClause zxm218 (0, 0) [.inl x0] [] [] (some o) [] [] := zv_meth (K := (z_KF13, z_KC13, z_KL13, z_KT13, [], [], [], none)) (FT := z_FT) (MT := z_MT) (n := 1) zxp218 (z_ks13 _ (fun _ h => List.mem_cons_of_mem _ h) _ _ _ _ (fun j r h _ => by cases h)) (fun _ _ => zs_KX_p) zyw_M_isClause (fun va F G h => by obtain ⟨rfl, _⟩ := h; rfl) (fun va F G h => by obtain ⟨rfl, _⟩ := h; rfl) rfl fun good va F G hB hret hvret hP => by
  obtain ⟨rfl, rfl, rfl⟩ := hP
  unfold zf_M_isClause at h
  refine zv_ild hB zd218_0 rfl rfl ?_
  refine zv_con hB zd218_1 rfl ?_
  refine zv_ceq hB zd218_3 rfl (fun hc1 => ?_) (fun hc1 => ?_)
  · rw [if_pos hc1] at h
    refine zv_con hB zd218_30 rfl ?_
    refine zv_goto hB zd218_31 rfl ?_
    have hw := Option.some.inj h
    subst hw
    exact hret _ _ _ _ _ zd218_35 (by constructor <;> decide) ⟨rfl, rfl, rfl⟩
  · rw [if_neg hc1] at h
    refine zv_ild hB zd218_6 rfl rfl ?_
    refine zv_con hB zd218_7 rfl ?_
    refine zv_ceq hB zd218_9 rfl (fun hc2 => ?_) (fun hc2 => ?_)
    · rw [if_pos hc2] at h
      refine zv_con hB zd218_30 rfl ?_
      refine zv_goto hB zd218_31 rfl ?_
      have hw := Option.some.inj h
      subst hw
      exact hret _ _ _ _ _ zd218_35 (by constructor <;> decide) ⟨rfl, rfl, rfl⟩
    · rw [if_neg hc2] at h
      refine zv_ild hB zd218_12 rfl rfl ?_
      refine zv_con hB zd218_13 rfl ?_
      refine zv_ceq hB zd218_15 rfl (fun hc3 => ?_) (fun hc3 => ?_)
      · rw [if_pos hc3] at h
        refine zv_con hB zd218_30 rfl ?_
        refine zv_goto hB zd218_31 rfl ?_
        have hw := Option.some.inj h
        subst hw
        exact hret _ _ _ _ _ zd218_35 (by constructor <;> decide) ⟨rfl, rfl, rfl⟩
      · rw [if_neg hc3] at h
        refine zv_ild hB zd218_18 rfl rfl ?_
        refine zv_con hB zd218_19 rfl ?_
        refine zv_ceq hB zd218_21 rfl (fun hc4 => ?_) (fun hc4 => ?_)
        · rw [if_pos hc4] at h
          refine zv_con hB zd218_30 rfl ?_
          refine zv_goto hB zd218_31 rfl ?_
          have hw := Option.some.inj h
          subst hw
          exact hret _ _ _ _ _ zd218_35 (by constructor <;> decide) ⟨rfl, rfl, rfl⟩
        · rw [if_neg hc4] at h
          refine zv_ild hB zd218_24 rfl rfl ?_
          refine zv_con hB zd218_25 rfl ?_
          refine zv_cne hB zd218_27 rfl (fun hc5 => ?_) (fun hc5 => ?_)
          · rw [if_neg hc5] at h
            refine zv_con hB zd218_34 rfl ?_
            have hw := Option.some.inj h
            subst hw
            exact hret _ _ _ _ _ zd218_35 (by constructor <;> decide) ⟨rfl, rfl, rfl⟩
          · rw [if_pos hc5] at h
            refine zv_con hB zd218_30 rfl ?_
            refine zv_goto hB zd218_31 rfl ?_
            have hw := Option.some.inj h
            subst hw
            exact hret _ _ _ _ _ zd218_35 (by constructor <;> decide) ⟨rfl, rfl, rfl⟩
/-! M_wrongAt (II)Z -/
-- names: 0 StarTalesModel('arg', 0)
-- fields: f0 = 0.fault_; arrays: ; out: [('ret', None), ('f', 0)]
abbrev zy_M_wrongAt : zNL := (1, [(0, 12)], [(0, 12, 7, 0)], [], [])
theorem zyw_M_wrongAt : zv_wf zy_M_wrongAt = true := by decide +kernel
theorem zye_M_wrongAt : zv_ek2 zy_M_wrongAt = true := by decide +kernel
def zf_M_wrongAt (x1 : Int) (x2 : Int) (f0 : Int) : Option (Int × Int) := some (0, (zi_w ((zi_w ((-1000) * x1)) - x2)))
theorem zd219_0 : decode zxm219.2.1 0 = .ok (.aload_n 0, 1) := by decide +kernel
theorem zd219_1 : decode zxm219.2.1 1 = .ok (.sipush (-1000), 3) := by decide +kernel
theorem zd219_4 : decode zxm219.2.1 4 = .ok (.iload_n 1, 1) := by decide +kernel
theorem zd219_5 : decode zxm219.2.1 5 = .ok (.imul, 1) := by decide +kernel
theorem zd219_6 : decode zxm219.2.1 6 = .ok (.iload_n 2, 1) := by decide +kernel
theorem zd219_7 : decode zxm219.2.1 7 = .ok (.isub, 1) := by decide +kernel
theorem zd219_8 : decode zxm219.2.1 8 = .ok (.putfield 186, 3) := by decide +kernel
theorem zd219_11 : decode zxm219.2.1 11 = .ok (.iconst 0, 1) := by decide +kernel
theorem zd219_12 : decode zxm219.2.1 12 = .ok (.ireturn, 1) := by decide +kernel
theorem zt_M_wrongAt {x1 : Int} {x2 : Int} {f0 : Int} {o : Int × Int} (h : zf_M_wrongAt x1 x2 f0 = some o) : zv_Fn z_TB z_cl z_KX zy_M_wrongAt zxm219 (0, 0) [.inr 0, .inl x1, .inl x2] [.inl f0] [] (some o.1) [.inl o.2] [] := zv_meth (K := (z_KF13, z_KC13, z_KL13, z_KT13, [], [], [], none)) (FT := z_FT) (MT := z_MT) (n := 3) zxp219 (z_ks13 _ (fun _ h => List.mem_cons_of_mem _ h) _ _ _ _ (fun j r h _ => by cases h)) (fun _ _ => zs_KX_p) zyw_M_wrongAt (fun va F G h => by obtain ⟨rfl, _⟩ := h; rfl) (fun va F G h => by obtain ⟨rfl, _⟩ := h; rfl) rfl fun good va F G hB hret hvret hP => by
  obtain ⟨rfl, rfl, rfl⟩ := hP
  unfold zf_M_wrongAt at h
  refine zv_ald hB zd219_0 rfl rfl rfl ?_
  refine zv_con hB zd219_1 rfl ?_
  refine zv_ild hB zd219_4 rfl rfl ?_
  refine zv_mulw hB zd219_5 ?_
  refine zv_ild hB zd219_6 rfl rfl ?_
  refine zv_subw hB zd219_7 ?_
  refine zv_putf hB zd219_8 rfl rfl (fun h => by cases h) rfl ?_
  refine zv_con hB zd219_11 rfl ?_
  have hw := Option.some.inj h
  subst hw
  exact hret _ _ _ _ _ zd219_12 (by constructor <;> decide) ⟨rfl, rfl, rfl⟩
/-! M_opens (I)Z -/
-- names: 0 StarTalesModel('arg', 0), 1 (0, 220)(0, 12, 15)
-- fields: f0 = 0.open_, f1 = 0.waiting_, f2 = 0.place0_, f3 = 0.fault_; arrays: g0 = 1; out: [('ret', None), ('f', 0), ('f', 1), ('f', 2), ('f', 3), ('g', 0)]
abbrev zy_M_opens : zNL := (2, [(0, 12)], [(0, 12, 8, 0), (0, 12, 10, 1), (0, 12, 5, 2), (0, 12, 7, 3)], [(0, 12, 15, 1)], [(1, 0, 220, 0)])
theorem zyw_M_opens : zv_wf zy_M_opens = true := by decide +kernel
theorem zye_M_opens : zv_ek2 zy_M_opens = true := by decide +kernel
def zf_M_opens (x1 : Int) (f0 : Int) (f1 : Int) (f2 : Int) (f3 : Int) (g0 : (Int → Int)) : Option (Int × Int × Int × Int × Int × (Int → Int)) := if f0 = 6 then ((zf_M_wrongAt 5 f2 f3).bind fun r3 => (cond (zi_bo r3.1) (some (r3.1, f0, f1, f2, r3.2, g0)) none)) else (cond (zi_ix f1 220) (some (1, (zi_w (f0 + 1)), (zi_w (f1 + 1)), (zi_w (f2 + 1)), f3, (zv_up g0 f1 (zi_w (1048576 * x1))))) none)
theorem zd222_0 : decode zxm222.2.1 0 = .ok (.aload_n 0, 1) := by decide +kernel
theorem zd222_1 : decode zxm222.2.1 1 = .ok (.getfield 203, 3) := by decide +kernel
theorem zd222_4 : decode zxm222.2.1 4 = .ok (.bipush 6, 2) := by decide +kernel
theorem zd222_6 : decode zxm222.2.1 6 = .ok (.if_icmp .ne 13, 3) := by decide +kernel
theorem zd222_9 : decode zxm222.2.1 9 = .ok (.aload_n 0, 1) := by decide +kernel
theorem zd222_10 : decode zxm222.2.1 10 = .ok (.iconst 5, 1) := by decide +kernel
theorem zd222_11 : decode zxm222.2.1 11 = .ok (.aload_n 0, 1) := by decide +kernel
theorem zd222_12 : decode zxm222.2.1 12 = .ok (.getfield 176, 3) := by decide +kernel
theorem zd222_15 : decode zxm222.2.1 15 = .ok (.invokevirtual 189, 3) := by decide +kernel
theorem zd222_18 : decode zxm222.2.1 18 = .ok (.ireturn, 1) := by decide +kernel
theorem zd222_19 : decode zxm222.2.1 19 = .ok (.aload_n 0, 1) := by decide +kernel
theorem zd222_20 : decode zxm222.2.1 20 = .ok (.aload_n 0, 1) := by decide +kernel
theorem zd222_21 : decode zxm222.2.1 21 = .ok (.getfield 203, 3) := by decide +kernel
theorem zd222_24 : decode zxm222.2.1 24 = .ok (.iconst 1, 1) := by decide +kernel
theorem zd222_25 : decode zxm222.2.1 25 = .ok (.iadd, 1) := by decide +kernel
theorem zd222_26 : decode zxm222.2.1 26 = .ok (.putfield 203, 3) := by decide +kernel
theorem zd222_29 : decode zxm222.2.1 29 = .ok (.aload_n 0, 1) := by decide +kernel
theorem zd222_30 : decode zxm222.2.1 30 = .ok (.getfield 26, 3) := by decide +kernel
theorem zd222_33 : decode zxm222.2.1 33 = .ok (.aload_n 0, 1) := by decide +kernel
theorem zd222_34 : decode zxm222.2.1 34 = .ok (.getfield 206, 3) := by decide +kernel
theorem zd222_37 : decode zxm222.2.1 37 = .ok (.ldc 202, 2) := by decide +kernel
theorem zd222_39 : decode zxm222.2.1 39 = .ok (.iload_n 1, 1) := by decide +kernel
theorem zd222_40 : decode zxm222.2.1 40 = .ok (.imul, 1) := by decide +kernel
theorem zd222_41 : decode zxm222.2.1 41 = .ok (.iastore, 1) := by decide +kernel
theorem zd222_42 : decode zxm222.2.1 42 = .ok (.aload_n 0, 1) := by decide +kernel
theorem zd222_43 : decode zxm222.2.1 43 = .ok (.aload_n 0, 1) := by decide +kernel
theorem zd222_44 : decode zxm222.2.1 44 = .ok (.getfield 206, 3) := by decide +kernel
theorem zd222_47 : decode zxm222.2.1 47 = .ok (.iconst 1, 1) := by decide +kernel
theorem zd222_48 : decode zxm222.2.1 48 = .ok (.iadd, 1) := by decide +kernel
theorem zd222_49 : decode zxm222.2.1 49 = .ok (.putfield 206, 3) := by decide +kernel
theorem zd222_52 : decode zxm222.2.1 52 = .ok (.aload_n 0, 1) := by decide +kernel
theorem zd222_53 : decode zxm222.2.1 53 = .ok (.aload_n 0, 1) := by decide +kernel
theorem zd222_54 : decode zxm222.2.1 54 = .ok (.getfield 176, 3) := by decide +kernel
theorem zd222_57 : decode zxm222.2.1 57 = .ok (.iconst 1, 1) := by decide +kernel
theorem zd222_58 : decode zxm222.2.1 58 = .ok (.iadd, 1) := by decide +kernel
theorem zd222_59 : decode zxm222.2.1 59 = .ok (.putfield 176, 3) := by decide +kernel
theorem zd222_62 : decode zxm222.2.1 62 = .ok (.iconst 1, 1) := by decide +kernel
theorem zd222_63 : decode zxm222.2.1 63 = .ok (.ireturn, 1) := by decide +kernel
theorem zt_M_opens {x1 : Int} {f0 : Int} {f1 : Int} {f2 : Int} {f3 : Int} {g0 : (Int → Int)} {o : Int × Int × Int × Int × Int × (Int → Int)} (h : zf_M_opens x1 f0 f1 f2 f3 g0 = some o) : zv_Fn z_TB z_cl z_KX zy_M_opens zxm222 (1, 60) [.inr 0, .inl x1] [.inl f0, .inl f1, .inl f2, .inl f3] [g0] (some o.1) [.inl o.2.1, .inl o.2.2.1, .inl o.2.2.2.1, .inl o.2.2.2.2.1] [o.2.2.2.2.2] := zv_meth (K := (z_KF13, z_KC13, z_KL13, z_KT13, [], [], [], none)) (FT := z_FT) (MT := z_MT) (n := 2) zxp222 (z_ks13 _ (fun _ h => List.mem_cons_of_mem _ h) _ _ _ _ (fun j r h _ => by cases h)) (fun _ _ => zs_KX_p) zyw_M_opens (fun va F G h => by obtain ⟨rfl, _⟩ := h; rfl) (fun va F G h => by obtain ⟨rfl, _⟩ := h; rfl) rfl fun good va F G hB hret hvret hP => by
  obtain ⟨rfl, rfl, rfl⟩ := hP
  unfold zf_M_opens at h
  refine zv_ald hB zd222_0 rfl rfl rfl ?_
  refine zv_getf hB zd222_1 rfl rfl (fun _ _ => ?_)
  refine zv_con hB zd222_4 rfl ?_
  refine zv_cne hB zd222_6 rfl (fun hc1 => ?_) (fun hc1 => ?_)
  · rw [if_neg hc1] at h
    refine zv_ald hB zd222_19 rfl rfl rfl ?_
    refine zv_ald hB zd222_20 rfl rfl rfl ?_
    refine zv_getf hB zd222_21 rfl rfl (fun _ _ => ?_)
    refine zv_con hB zd222_24 rfl ?_
    refine zv_addw hB zd222_25 ?_
    refine zv_putf hB zd222_26 rfl rfl (fun h => by cases h) rfl ?_
    refine zv_ald hB zd222_29 rfl rfl rfl ?_
    refine zv_getr hB zd222_30 rfl ?_
    refine zv_ald hB zd222_33 rfl rfl rfl ?_
    refine zv_getf hB zd222_34 rfl rfl (fun _ _ => ?_)
    refine zv_con (n := 1048576) hB zd222_37 (by decide +kernel) ?_
    refine zv_ild hB zd222_39 rfl rfl ?_
    refine zv_mulw hB zd222_40 ?_
    obtain ⟨c2, h⟩ := zi_if h
    refine zv_iast hB zd222_41 rfl rfl (zi_ix_ok c2).1 (zi_ix_ok c2).2 ?_
    refine zv_ald hB zd222_42 rfl rfl rfl ?_
    refine zv_ald hB zd222_43 rfl rfl rfl ?_
    refine zv_getf hB zd222_44 rfl rfl (fun _ _ => ?_)
    refine zv_con hB zd222_47 rfl ?_
    refine zv_addw hB zd222_48 ?_
    refine zv_putf hB zd222_49 rfl rfl (fun h => by cases h) rfl ?_
    refine zv_ald hB zd222_52 rfl rfl rfl ?_
    refine zv_ald hB zd222_53 rfl rfl rfl ?_
    refine zv_getf hB zd222_54 rfl rfl (fun _ _ => ?_)
    refine zv_con hB zd222_57 rfl ?_
    refine zv_addw hB zd222_58 ?_
    refine zv_putf hB zd222_59 rfl rfl (fun h => by cases h) rfl ?_
    refine zv_con hB zd222_62 rfl ?_
    have hw := Option.some.inj h
    subst hw
    exact hret _ _ _ _ _ zd222_63 (by constructor <;> decide) ⟨rfl, rfl, rfl⟩
  · rw [if_pos hc1] at h
    refine zv_ald hB zd222_9 rfl rfl rfl ?_
    refine zv_con hB zd222_10 rfl ?_
    refine zv_ald hB zd222_11 rfl rfl rfl ?_
    refine zv_getf hB zd222_12 rfl rfl (fun _ _ => ?_)
    obtain ⟨r3, hr3, h⟩ := zi_bind h
    refine zv_cv hB (zv_emq (va2 := [.inr 0, .inl 5, .inl f2]) (F := [.inl f0, .inl f1, .inl f2, .inl f3]) (F' := [.inl f0, .inl f1, .inl f2, .inl r3.2]) (G := [g0]) (G' := [g0]) (ρ := [0]) (φ := [3]) (ψ := []) [none, none, none, some 0] [none] zyw_M_wrongAt zyw_M_opens zye_M_opens (by decide +kernel) (zt_M_wrongAt hr3) ⟨⟨_, rfl, fun _ => rfl⟩, trivial⟩ trivial rfl rfl rfl rfl rfl rfl rfl) zd222_15 zxt219 rfl (by decide) (by decide) rfl ?_
    obtain ⟨c4, h⟩ := zi_if h
    have hw := Option.some.inj h
    subst hw
    exact hret _ _ _ _ _ zd222_18 (zi_bo_ok c4) ⟨rfl, rfl, rfl⟩
/-! M_isDigit ()Z -/
-- names: 0 StarTalesModel('arg', 0), 1 (1, 220)(0, 12, 3)
-- fields: f0 = 0.place0_, f1 = 0.length0_; arrays: g0 = 1; out: [('ret', None)]
abbrev zy_M_isDigit : zNL := (2, [(0, 12)], [(0, 12, 5, 0), (0, 12, 6, 1)], [(0, 12, 3, 1)], [(1, 1, 220, 0)])
theorem zyw_M_isDigit : zv_wf zy_M_isDigit = true := by decide +kernel
theorem zye_M_isDigit : zv_ek2 zy_M_isDigit = true := by decide +kernel
def zf_M_isDigit (f0 : Int) (f1 : Int) (g0 : (Int → Int)) : Option (Int) := (zf_M_here f0 f1 g0).bind fun r1 => (if r1 < 48 then (some 0) else ((zf_M_here f0 f1 g0).bind fun r3 => (if 57 < r3 then (some 0) else (some 1))))
theorem zd223_0 : decode zxm223.2.1 0 = .ok (.aload_n 0, 1) := by decide +kernel
theorem zd223_1 : decode zxm223.2.1 1 = .ok (.invokevirtual 182, 3) := by decide +kernel
theorem zd223_4 : decode zxm223.2.1 4 = .ok (.bipush 48, 2) := by decide +kernel
theorem zd223_6 : decode zxm223.2.1 6 = .ok (.if_icmp .lt 16, 3) := by decide +kernel
theorem zd223_9 : decode zxm223.2.1 9 = .ok (.aload_n 0, 1) := by decide +kernel
theorem zd223_10 : decode zxm223.2.1 10 = .ok (.invokevirtual 182, 3) := by decide +kernel
theorem zd223_13 : decode zxm223.2.1 13 = .ok (.bipush 57, 2) := by decide +kernel
theorem zd223_15 : decode zxm223.2.1 15 = .ok (.if_icmp .gt 7, 3) := by decide +kernel
theorem zd223_18 : decode zxm223.2.1 18 = .ok (.iconst 1, 1) := by decide +kernel
theorem zd223_19 : decode zxm223.2.1 19 = .ok (.goto 4, 3) := by decide +kernel
theorem zd223_22 : decode zxm223.2.1 22 = .ok (.iconst 0, 1) := by decide +kernel
theorem zd223_23 : decode zxm223.2.1 23 = .ok (.ireturn, 1) := by decide +kernel
theorem zt_M_isDigit {f0 : Int} {f1 : Int} {g0 : (Int → Int)} {o : Int} (h : zf_M_isDigit f0 f1 g0 = some o) : zv_Fn z_TB z_cl z_KX zy_M_isDigit zxm223 (1, 60) [.inr 0] [.inl f0, .inl f1] [g0] (some o) [.inl f0, .inl f1] [g0] := zv_meth (K := (z_KF13, z_KC13, z_KL13, z_KT13, [], [], [], none)) (FT := z_FT) (MT := z_MT) (n := 1) zxp223 (z_ks13 _ (fun _ h => List.mem_cons_of_mem _ h) _ _ _ _ (fun j r h _ => by cases h)) (fun _ _ => zs_KX_p) zyw_M_isDigit (fun va F G h => by obtain ⟨rfl, _⟩ := h; rfl) (fun va F G h => by obtain ⟨rfl, _⟩ := h; rfl) rfl fun good va F G hB hret hvret hP => by
  obtain ⟨rfl, rfl, rfl⟩ := hP
  unfold zf_M_isDigit at h
  refine zv_ald hB zd223_0 rfl rfl rfl ?_
  obtain ⟨r1, hr1, h⟩ := zi_bind h
  refine zv_cv hB (zv_emq (va2 := [.inr 0]) (F := [.inl f0, .inl f1]) (F' := [.inl f0, .inl f1]) (G := [g0]) (G' := [g0]) (ρ := [0, 1]) (φ := [0, 1]) (ψ := [0]) [some 0, some 1] [some 0] zyw_M_here zyw_M_isDigit zye_M_isDigit (by decide +kernel) (zt_M_here hr1) ⟨⟨_, rfl, fun _ => rfl⟩, ⟨_, rfl, fun _ => rfl⟩, trivial⟩ ⟨rfl, trivial⟩ rfl rfl rfl rfl rfl rfl rfl) zd223_1 zxt217 rfl (by decide) (by decide) rfl ?_
  refine zv_con hB zd223_4 rfl ?_
  refine zv_clt hB zd223_6 rfl (fun hc2 => ?_) (fun hc2 => ?_)
  · rw [if_pos hc2] at h
    refine zv_con hB zd223_22 rfl ?_
    have hw := Option.some.inj h
    subst hw
    exact hret _ _ _ _ _ zd223_23 (by constructor <;> decide) ⟨rfl, rfl, rfl⟩
  · rw [if_neg (Int.not_lt.mpr hc2)] at h
    refine zv_ald hB zd223_9 rfl rfl rfl ?_
    obtain ⟨r3, hr3, h⟩ := zi_bind h
    refine zv_cv hB (zv_emq (va2 := [.inr 0]) (F := [.inl f0, .inl f1]) (F' := [.inl f0, .inl f1]) (G := [g0]) (G' := [g0]) (ρ := [0, 1]) (φ := [0, 1]) (ψ := [0]) [some 0, some 1] [some 0] zyw_M_here zyw_M_isDigit zye_M_isDigit (by decide +kernel) (zt_M_here hr3) ⟨⟨_, rfl, fun _ => rfl⟩, ⟨_, rfl, fun _ => rfl⟩, trivial⟩ ⟨rfl, trivial⟩ rfl rfl rfl rfl rfl rfl rfl) zd223_10 zxt217 rfl (by decide) (by decide) rfl ?_
    refine zv_con hB zd223_13 rfl ?_
    refine zv_cgt hB zd223_15 rfl (fun hc4 => ?_) (fun hc4 => ?_)
    · rw [if_pos hc4] at h
      refine zv_con hB zd223_22 rfl ?_
      have hw := Option.some.inj h
      subst hw
      exact hret _ _ _ _ _ zd223_23 (by constructor <;> decide) ⟨rfl, rfl, rfl⟩
    · rw [if_neg (Int.not_lt.mpr hc4)] at h
      refine zv_con hB zd223_18 rfl ?_
      refine zv_goto hB zd223_19 rfl ?_
      have hw := Option.some.inj h
      subst hw
      exact hret _ _ _ _ _ zd223_23 (by constructor <;> decide) ⟨rfl, rfl, rfl⟩
end
