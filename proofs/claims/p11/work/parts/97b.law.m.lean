/-! 97b.law, 97c.inv, 97d.help, 98a.calls, 98b.calls, 98c.calls, 98d.calls, 98e.lawtale, 98f.lawcase, 98g.switch -/
section
/-! The law from its entry, by what one call of it does. -/
section ZWLAW
variable {p : Program} {l : Launch} {e : Env} {s : State} {m : MethodId} {args : Array Value} {below : List Frame} {meth : Method} {c : Code} {Q : State → Prop}
variable {OB : Nat → Nat} {D : va_G} {DA : Nat → ClassId} {b Lx : Nat} {xs : Nat → Int32} {Inv : (Nat → Int) → (Nat → Int → Int) → Prop}
theorem zw_law (hx : p.tables.exec = Jvm.exec) (hb : c.code = code) (hml : c.maxLocals = 4) (hX : va_X b Lx xs s s.heap) (hbl : b < s.heap.size) (hL : Lx ≤ 3072) (hOB0 : OB 0 = b) (hD : z_Dy s m args z_TB "StarTalesLaw" D z_cl DA (z_tys DA)) (hKX : z_KX OB s.heap.size s s.heap)
    (hend : ∀ pc H ls, decode code pc = .ok (.ireturn, 1) → W p l e room_1 s m args below meth c H [] 600000 7302250 Q (F0 m pc ls [.int 1])) (hbody : zw_body Lx xs Inv) (hI0 : ∀ g, y0_g g → Inv y0_f0 g)
    {ls : Array Slot} (hls : z_ls 4 ls [.ref b, .int (Int32.ofNat Lx)] [(0, 0)]) : W p l e room_1 s m args below meth c s.heap [] 0 0 Q (F0 m 0 ls []) := by
  refine zy_start (TY := z_TYs) (PHI := z_PH) (PHS := z_PS) (FT := z_FT) (MT := z_MT) (SG := z_sL) (ce := z_eL) (mk := (129, 43489)) (nw := z_nw) (hpc := 18) (tx := 86) (tm := 128) (N := 3072) hx hb hml (by decide) hL hOB0 hD zs_KX_p hKX (z_kSL z_TB (fun _ h => h)) rfl z_phk z_oL hend z_kS (fun T H locs ls x m2 hH => ?_) hls
  intro U hU X
  have hsz : H.size ≤ s.heap.size + 129 := by rw [← hU]; exact X.heapSize
  obtain ⟨A, g, h1, h2, h3, h4, h5, h6, h7⟩ := y0_rep hH hsz
  obtain ⟨⟨-, -, hS⟩, -, ⟨lv, k1, k2, k3, k4, k5, k6⟩, -⟩ := hH
  have hA9 : A 900 = b := (h3 0).trans hOB0
  refine zw_loop hx hb hml hX hbl hL hOB0 hD hKX hend hbody (Lx + 6) 0 (by omega) (by decide) (by decide) y0_f0 g A H locs ls (hI0 g h7) h1 h2 h3 h6 hS ⟨lv, k1, k2, fun j v hj hv => ?_⟩ U hU X
  match j, hj with
  | 0, hj => cases hj; exact ⟨_, by show zv_w A 900 (.ref b); rw [← hA9]; exact zv_w_mk (by decide), k3⟩
  | 1, hj => cases hj; exact ⟨_, by show zv_w A 0 (.ref x); rw [← h4]; exact zv_w_mk (by decide), k4⟩
  | 2, hj => cases hj; exact ⟨_, by show zv_w A 1 (.ref m2); rw [← h5]; exact zv_w_mk (by decide), k5⟩
  | 3, hj => cases hj; exact ⟨_, ⟨0, rfl, rfl⟩, k6⟩
  | n + 4, hj => cases hj
end ZWLAW
end
section
/-! What holds between class and reference, call by call. -/
def zI (f : Nat → Int) (g : Nat → Int → Int) : Prop :=
  (∃ L, yl_R L (g 20) (g 22) (f 32) (f 30) (f 35) (f 34) (f 36) (g 17) (g 44) (g 18) (g 19) (f 83) (g 75) (g 76) (g 77) (g 78) (g 79)) ∧ (yk_sky (f 0) (f 1) (f 28) (f 2) (f 3) (f 4) (f 48) (g 0) (g 1) (g 2) (g 3) (g 4) (g 67)) ∧ (yk_sea (f 5) (g 5) (g 6) (g 67)) ∧ (yk_tape (f 6) (f 74) (g 7) (g 68)) ∧ ((f 88 = f 37 ∧ f 89 = f 38 ∧ yk_tl (f 37) (f 38) (g 26) (g 85) (g 86))) ∧ ((f 96 = f 73 ∧ (f 73 ≠ 0 → yk_sky (f 65) (f 66) (f 67) (f 68) (f 69) (f 70) (f 71) (g 60) (g 61) (g 62) (g 63) (g 64) (g 107) ∧ yk_sea (f 72) (g 66) (g 65) (g 107)))) ∧ (yw_so (g 28)) ∧ (yw_rg 264 (g 53)) ∧ (yw_rg 264 (g 55))
theorem zI.law {f : Nat → Int} {g : Nat → Int → Int} (h : zI f g) : ∃ L, yl_R L (g 20) (g 22) (f 32) (f 30) (f 35) (f 34) (f 36) (g 17) (g 44) (g 18) (g 19) (f 83) (g 75) (g 76) (g 77) (g 78) (g 79) := h.1
theorem zI.sky {f : Nat → Int} {g : Nat → Int → Int} (h : zI f g) : yk_sky (f 0) (f 1) (f 28) (f 2) (f 3) (f 4) (f 48) (g 0) (g 1) (g 2) (g 3) (g 4) (g 67) := h.2.1
theorem zI.sea {f : Nat → Int} {g : Nat → Int → Int} (h : zI f g) : yk_sea (f 5) (g 5) (g 6) (g 67) := h.2.2.1
theorem zI.tape {f : Nat → Int} {g : Nat → Int → Int} (h : zI f g) : yk_tape (f 6) (f 74) (g 7) (g 68) := h.2.2.2.1
theorem zI.tale {f : Nat → Int} {g : Nat → Int → Int} (h : zI f g) : (f 88 = f 37 ∧ f 89 = f 38 ∧ yk_tl (f 37) (f 38) (g 26) (g 85) (g 86)) := h.2.2.2.2.1
theorem zI.kept {f : Nat → Int} {g : Nat → Int → Int} (h : zI f g) : (f 96 = f 73 ∧ (f 73 ≠ 0 → yk_sky (f 65) (f 66) (f 67) (f 68) (f 69) (f 70) (f 71) (g 60) (g 61) (g 62) (g 63) (g 64) (g 107) ∧ yk_sea (f 72) (g 66) (g 65) (g 107))) := h.2.2.2.2.2.1
theorem zI.so {f : Nat → Int} {g : Nat → Int → Int} (h : zI f g) : yw_so (g 28) := h.2.2.2.2.2.2.1
theorem zI.le {f : Nat → Int} {g : Nat → Int → Int} (h : zI f g) : yw_rg 264 (g 53) := h.2.2.2.2.2.2.2.1
theorem zI.ln {f : Nat → Int} {g : Nat → Int → Int} (h : zI f g) : yw_rg 264 (g 55) := h.2.2.2.2.2.2.2.2
section ZWI
variable {good : Nat → List zNV → List zNV → List zNV → List (Int → Int) → Prop} {Lx : Nat} {xs : Nat → Int32} {i : Int} {S F : List zNV} {G : List (Int → Int)}
abbrev zw_ai (pc : Nat) (j : Int) : Prop := decode code pc = .ok (.aload_n 0, 1) ∧ decode code (pc + 1) = .ok (.iload_n 3, 1) ∧ decode code (pc + 2) = .ok (.iconst j, 1) ∧ decode code (pc + 3) = .ok (.iadd, 1) ∧ decode code (pc + 4) = .ok (.iaload, 1)
abbrev zw_a (xs : Nat → Int32) (i j : Int) : Int := (xs (i + j).toNat).toInt
theorem zw_arg (hB : zw_B good) (hR : zw_R Lx xs good) (i0 : 0 ≤ i) (i6 : i + 6 ≤ Lx) (hL : Lx ≤ 3072) {pc : Nat} {j : Int} (h : zw_ai pc j) (j0 : 0 ≤ j) (j5 : j ≤ 5) (hc : zv_cst lwK (.iconst j) 1 = some j) (k : good (pc + 5) (zw_lc i) (.inl (zw_a xs i j) :: S) F G) : good pc (zw_lc i) S F G := by
  obtain ⟨h1, h2, h3, h4, h5⟩ := h
  refine zv_ald (ins := .aload_n 0) (len := 1) hB h1 rfl rfl rfl ?_
  refine zv_ild (ins := .iload_n 3) (len := 1) hB h2 rfl rfl ?_
  refine zv_con (ins := .iconst j) (len := 1) hB h3 hc ?_
  refine zv_iadd hB h4 (by omega) (by omega) ?_
  exact hR.2.1 _ _ _ _ _ _ h5 (by omega) (by omega) k
theorem zw_tail (hB : zw_B good) (i0 : 0 ≤ i) (i6 : i + 6 ≤ Lx) (hL : Lx ≤ 3072) (k : good 18 (zw_lc (i + 6)) [] F G) : good 1593 (zw_lc i) [] F G := by
  refine zv_iinc (i := 3) (n := 6) hB (by decide +kernel) rfl rfl (by omega) (by omega) ?_
  exact zv_goto hB (off := -1578) (t := 18) (by decide +kernel) rfl k
end ZWI
theorem zI_0 {g : Nat → Int → Int} (h : y0_g g) : zI y0_f0 g := by
  obtain ⟨hz, h1, h2, h3, h4⟩ := h
  have z : ∀ q ∈ y0_Z, ∀ i : Int, 0 ≤ i → i < (q.2.2 : Nat) → g q.1 i = 0 := hz
  have hsea : yk_sea (y0_f0 5) (g 5) (g 6) (g 67) := by
    refine ⟨⟨by decide, by decide, h4 127 (by decide) (by decide) (by decide) (by decide) (by decide), fun s s0 s1 => ?_, fun y y0 y1 => ?_, fun x y x0 x1 y0 y1 => ?_⟩, fun s s0 s1 => ?_⟩
    · rw [h4 _ (by omega) (by omega) (by omega) (by omega) (by omega), z (5, 9, 6) (by decide) s s0 s1]
    · rw [z (6, 10, 12) (by decide) y y0 y1]; decide
    · rw [h4 _ (by omega) (by omega) (by omega) (by omega) (by omega), z (6, 10, 12) (by decide) y y0 y1, if_neg]
      unfold zi_tb
      simp
    · rw [z (5, 9, 6) (by decide) s s0 s1]; decide
  refine ⟨⟨(0, fun _ => 0, fun _ _ => none, fun _ _ => none), ⟨rfl, by decide, by decide, rfl⟩, fun q q0 q1 => absurd q1 (by have : y0_f0 32 = 0 := rfl; omega), 0, by decide, fun q q0 q1 => absurd q1 (by show ¬ q < (0 : Int); omega), ⟨⟨Or.inr ⟨rfl, fun q q0 q1 => absurd q1 (by show ¬ q < (0 : Int); omega)⟩, Or.inr ⟨rfl, fun q q0 q1 => absurd q1 (by show ¬ q < (0 : Int); omega)⟩⟩, ⟨fun _ q q0 q1 => absurd q1 (by show ¬ q < (0 : Int); omega), fun _ q q0 q1 => absurd q1 (by show ¬ q < (0 : Int); omega), fun _ q q0 q1 => absurd q1 (by show ¬ q < (0 : Int); omega)⟩, fun _ q q0 q1 => absurd q1 (by show ¬ q < (0 : Int); omega), fun _ q q0 q1 => absurd q1 (by show ¬ q < (0 : Int); omega)⟩, fun j j0 j1 => by omega⟩, ?_, hsea, ?_, ⟨rfl, rfl, ?_⟩, ⟨rfl, fun h => absurd rfl h⟩, fun k k0 k1 => ?_, fun j j0 j1 => ?_, fun j j0 j1 => ?_⟩
  · refine ⟨⟨⟨by decide, by decide⟩, h4 126 (by decide) (by decide) (by decide) (by decide) (by decide)⟩, ⟨by decide, h4 128 (by decide) (by decide) (by decide) (by decide) (by decide)⟩, h4 129 (by decide) (by decide) (by decide) (by decide) (by decide), ⟨⟨by decide, by decide⟩, h4 130 (by decide) (by decide) (by decide) (by decide) (by decide)⟩, ⟨by decide, h1⟩, ⟨by decide, h2⟩, ⟨by decide, h3⟩, fun i i0 i1 => ?_⟩
    rw [z (0, 3, 24) (by decide) i i0 i1, z (1, 4, 24) (by decide) i i0 i1, z (2, 5, 24) (by decide) i i0 i1, z (3, 6, 24) (by decide) i i0 i1, z (4, 7, 24) (by decide) i i0 i1, h4 i (by omega) (by omega) (by omega) (by omega) (by omega), h4 (24 + i) (by omega) (by omega) (by omega) (by omega) (by omega), h4 (48 + i) (by omega) (by omega) (by omega) (by omega) (by omega), h4 (72 + i) (by omega) (by omega) (by omega) (by omega) (by omega), h4 (96 + i) (by omega) (by omega) (by omega) (by omega) (by omega)]
    exact ⟨by decide, by decide, fun _ => ⟨rfl, rfl, rfl, rfl, rfl⟩⟩
  · refine ⟨rfl, by decide, by decide, fun j j0 j1 => ?_⟩
    rw [z (7, 12, 220) (by decide) j j0 j1, z (68, 87, 220) (by decide) j j0 j1]
    decide
  · refine ⟨by decide, fun i i0 i1 => absurd i1 (by show ¬ i < (0 : Int); omega), fun i j i0 i1 i2 => absurd i2 (by show ¬ j < (0 : Int); omega), ⟨by decide, by decide⟩, fun b => ⟨fun hb => ?_, fun ⟨i, i0, i1, _⟩ => absurd i1 (by show ¬ i < (0 : Int); omega)⟩, fun a a0 a1 => ⟨?_, fun b => ⟨fun hb => ?_, fun ⟨i, i0, i1, _⟩ => absurd i1 (by show ¬ i < (0 : Int); omega)⟩⟩⟩
    · have hb : zb 0 b = true := hb
      rw [zb_0] at hb; cases hb
    · rw [z (26, 38, 8) (by decide) a a0 a1]; exact ⟨by decide, by decide⟩
    · rw [z (26, 38, 8) (by decide) a a0 a1, zb_0] at hb; cases hb
  · rw [z (28, 40, 8) (by decide) k k0 k1]; decide
  · rw [z (53, 69, 264) (by decide) j j0 j1]; decide
  · rw [z (55, 71, 264) (by decide) j j0 j1]; decide
end
section
/-! Small steps of the law's cases. -/
section ZWH
variable {f : Nat → Int} {g : Nat → Int → Int}
theorem zI_tl (h : zI f g) : yk_tl (f 88) (f 89) (g 26) (g 85) (g 86) := by
  obtain ⟨h1, h2, h3⟩ := h.tale
  rw [h1, h2]; exact h3
theorem zI_sky (h : zI f g) {m2 : Int → Int} (e : ∀ j, 0 ≤ j → j < 422 → m2 j = g 67 j) : yk_sky (f 0) (f 1) (f 28) (f 2) (f 3) (f 4) (f 48) (g 0) (g 1) (g 2) (g 3) (g 4) m2 :=
  yk_sky_cg h.sky (fun _ _ _ => rfl) (fun _ _ _ => rfl) (fun _ _ _ => rfl) (fun _ _ _ => rfl) (fun _ _ _ => rfl) e
theorem zI_sea (h : zI f g) {m2 : Int → Int} (e : ∀ j, 0 ≤ j → j < 422 → m2 j = g 67 j) : yk_sea (f 5) (g 5) (g 6) m2 :=
  yk_sea_cg h.sea (fun _ _ _ => rfl) (fun _ _ _ => rfl) e
theorem zI_size (h : zI f g) {a b c : Int} (e1 : a = c) (e2 : b = (c : Int)) (hc : c = f 6 ∨ c = 0) : yk_tape a b (g 7) (g 68) := by
  obtain ⟨h1, h2, h3, h4⟩ := h.tape
  exact ⟨by omega, by omega, by omega, h4⟩
end ZWH
section ZWB
variable {good : Nat → List zNV → List zNV → List zNV → List (Int → Int) → Prop} {L S F : List zNV} {G : List (Int → Int)} {a : Int}
theorem zw_bool (hB : zw_B good) {pc : Nat} (h1 : decode code pc = .ok (.ifCond .eq 7, 3)) (h2 : decode code (pc + 3) = .ok (.iconst 1, 1)) (h3 : decode code (pc + 4) = .ok (.goto 4, 3)) (h4 : decode code (pc + 7) = .ok (.iconst 0, 1)) (t1 : z_to pc 7 = some (pc + 7)) (t2 : z_to (pc + 4) 4 = some (pc + 8)) (k : good (pc + 8) L (.inl (if a = 0 then 0 else 1) :: S) F G) : good pc L (.inl a :: S) F G := by
  refine zv_zeq hB h1 t1 (fun e => ?_) fun e => ?_
  · refine zv_con (ins := .iconst 0) (len := 1) hB h4 rfl ?_
    rw [if_pos e] at k
    exact k
  · refine zv_con (ins := .iconst 1) (len := 1) hB h2 rfl ?_
    refine zv_goto hB h3 t2 ?_
    rw [if_neg e] at k
    exact k
end ZWB
end
section
/-! The calls of the law, case by case. -/
theorem zc_star {good : Nat → List zNV → List zNV → List zNV → List (Int → Int) → Prop} {Lx : Nat} {xs : Nat → Int32} {i : Int} {f : Nat → Int} {g : Nat → Int → Int} (hL : Lx ≤ 3072) (hB : zw_B good) (hR : zw_R Lx xs good) (i0 : 0 ≤ i) (i6 : i + 6 ≤ Lx) (hI : zI f g) (k : ∀ f2 g2, zI f2 g2 → good 18 (zw_lc (i + 6)) [] (zE_F f2) (zE_G g2)) : good 204 (zw_lc i) [] (zE_F f) (zE_G g) := by
  obtain ⟨L, R⟩ := hI.law
  have tl := zI_tl hI
  obtain ⟨v0, v1, v2, v3, v4, v5, v6, v7, e1, e2, k', fr⟩ := yo_star (i := (zw_a xs i 1)) (c := (zw_a xs i 2)) (r := (zw_a xs i 3)) (b := (zw_a xs i 4)) (t := (f 0)) (co := (g 0)) (ro := (g 1)) (br := (g 2)) (wc := (g 3)) (wr := (g 4)) (m := (g 67)) hI.sky
  refine zv_ald (ins := .aload_n 1) (len := 1) hB (by decide +kernel) rfl rfl rfl ?_
  refine zw_arg (j := 1) hB hR i0 i6 hL (by decide +kernel) (by decide) (by decide) rfl ?_
  refine zw_arg (j := 2) hB hR i0 i6 hL (by decide +kernel) (by decide) (by decide) rfl ?_
  refine zw_arg (j := 3) hB hR i0 i6 hL (by decide +kernel) (by decide) (by decide) rfl ?_
  refine zw_arg (j := 4) hB hR i0 i6 hL (by decide +kernel) (by decide) (by decide) rfl ?_
  refine zv_cv (i := 13) (c := 0) (mm2 := zxm14) (rm2 := (1, 60)) (va := [.inl (zw_a xs i 1), .inl (zw_a xs i 2), .inl (zw_a xs i 3), .inl (zw_a xs i 4)]) (S := []) hB (zE_up (by rfl) (by rfl) (by rfl) (by rfl) (by rfl) (zo_X_star e1)) (by decide +kernel) rfl rfl (by decide) (by decide) rfl ?_
  refine zv_pop hB (by decide +kernel) rfl ?_
  refine zv_ald (ins := .aload_n 2) (len := 1) hB (by decide +kernel) rfl rfl rfl ?_
  refine zw_arg (j := 1) hB hR i0 i6 hL (by decide +kernel) (by decide) (by decide) rfl ?_
  refine zw_arg (j := 2) hB hR i0 i6 hL (by decide +kernel) (by decide) (by decide) rfl ?_
  refine zw_arg (j := 3) hB hR i0 i6 hL (by decide +kernel) (by decide) (by decide) rfl ?_
  refine zw_arg (j := 4) hB hR i0 i6 hL (by decide +kernel) (by decide) (by decide) rfl ?_
  refine zv_cv (i := 17) (c := 1) (mm2 := zxm199) (rm2 := (1, 60)) (va := [.inl (zw_a xs i 1), .inl (zw_a xs i 2), .inl (zw_a xs i 3), .inl (zw_a xs i 4)]) (S := []) hB (zE_up (by rfl) (by rfl) (by rfl) (by rfl) (by rfl) (zo_M_star e2)) (by decide +kernel) rfl rfl (by decide) (by decide) rfl ?_
  refine zv_pop hB (by decide +kernel) rfl ?_
  refine zv_goto hB (off := 1339) (t := 1593) (by decide +kernel) rfl ?_
  exact zw_tail hB i0 i6 hL (k _ _ ⟨hI.law, k', yk_sea_fr hI.sea fun j hj => fr j (by omega) (by omega), hI.tape, hI.tale, hI.kept, hI.so, hI.le, hI.ln⟩)
theorem zc_walk {good : Nat → List zNV → List zNV → List zNV → List (Int → Int) → Prop} {Lx : Nat} {xs : Nat → Int32} {i : Int} {f : Nat → Int} {g : Nat → Int → Int} (hL : Lx ≤ 3072) (hB : zw_B good) (hR : zw_R Lx xs good) (i0 : 0 ≤ i) (i6 : i + 6 ≤ Lx) (hI : zI f g) (k : ∀ f2 g2, zI f2 g2 → good 18 (zw_lc (i + 6)) [] (zE_F f2) (zE_G g2)) : good 257 (zw_lc i) [] (zE_F f) (zE_G g) := by
  obtain ⟨L, R⟩ := hI.law
  have tl := zI_tl hI
  obtain ⟨v0, v1, v2, v3, e1, e2, k', fr⟩ := yo_walk (i := (zw_a xs i 1)) (c := (zw_a xs i 2)) (r := (zw_a xs i 3)) (t := (f 0)) (wc := (g 3)) (wr := (g 4)) (m := (g 67)) hI.sky
  refine zv_ald (ins := .aload_n 1) (len := 1) hB (by decide +kernel) rfl rfl rfl ?_
  refine zw_arg (j := 1) hB hR i0 i6 hL (by decide +kernel) (by decide) (by decide) rfl ?_
  refine zw_arg (j := 2) hB hR i0 i6 hL (by decide +kernel) (by decide) (by decide) rfl ?_
  refine zw_arg (j := 3) hB hR i0 i6 hL (by decide +kernel) (by decide) (by decide) rfl ?_
  refine zv_cv (i := 18) (c := 0) (mm2 := zxm17) (rm2 := (1, 60)) (va := [.inl (zw_a xs i 1), .inl (zw_a xs i 2), .inl (zw_a xs i 3)]) (S := []) hB (zE_up (by rfl) (by rfl) (by rfl) (by rfl) (by rfl) (zo_X_walk e1)) (by decide +kernel) rfl rfl (by decide) (by decide) rfl ?_
  refine zv_pop hB (by decide +kernel) rfl ?_
  refine zv_ald (ins := .aload_n 2) (len := 1) hB (by decide +kernel) rfl rfl rfl ?_
  refine zw_arg (j := 1) hB hR i0 i6 hL (by decide +kernel) (by decide) (by decide) rfl ?_
  refine zw_arg (j := 2) hB hR i0 i6 hL (by decide +kernel) (by decide) (by decide) rfl ?_
  refine zw_arg (j := 3) hB hR i0 i6 hL (by decide +kernel) (by decide) (by decide) rfl ?_
  refine zv_cv (i := 22) (c := 1) (mm2 := zxm202) (rm2 := (2, 120)) (va := [.inl (zw_a xs i 1), .inl (zw_a xs i 2), .inl (zw_a xs i 3)]) (S := []) hB (zE_up (by rfl) (by rfl) (by rfl) (by rfl) (by rfl) (zo_M_walk e2)) (by decide +kernel) rfl rfl (by decide) (by decide) rfl ?_
  refine zv_pop hB (by decide +kernel) rfl ?_
  refine zv_goto hB (off := 1296) (t := 1593) (by decide +kernel) rfl ?_
  exact zw_tail hB i0 i6 hL (k _ _ ⟨hI.law, k', yk_sea_fr hI.sea fun j hj => fr j (by omega), hI.tape, hI.tale, hI.kept, hI.so, hI.le, hI.ln⟩)
theorem zc_gone {good : Nat → List zNV → List zNV → List zNV → List (Int → Int) → Prop} {Lx : Nat} {xs : Nat → Int32} {i : Int} {f : Nat → Int} {g : Nat → Int → Int} (hL : Lx ≤ 3072) (hB : zw_B good) (hR : zw_R Lx xs good) (i0 : 0 ≤ i) (i6 : i + 6 ≤ Lx) (hI : zI f g) (k : ∀ f2 g2, zI f2 g2 → good 18 (zw_lc (i + 6)) [] (zE_F f2) (zE_G g2)) : good 300 (zw_lc i) [] (zE_F f) (zE_G g) := by
  obtain ⟨L, R⟩ := hI.law
  have tl := zI_tl hI
  obtain ⟨v0, v1, v2, e1, e2, k', fr⟩ := yo_gone (i := (zw_a xs i 1)) (t := (f 0)) (m := (g 67)) hI.sky
  refine zv_ald (ins := .aload_n 1) (len := 1) hB (by decide +kernel) rfl rfl rfl ?_
  refine zw_arg (j := 1) hB hR i0 i6 hL (by decide +kernel) (by decide) (by decide) rfl ?_
  refine zv_cv (i := 23) (c := 0) (mm2 := zxm19) (rm2 := (1, 60)) (va := [.inl (zw_a xs i 1)]) (S := []) hB (zE_up (by rfl) (by rfl) (by rfl) (by rfl) (by rfl) (zo_X_gone e1)) (by decide +kernel) rfl rfl (by decide) (by decide) rfl ?_
  refine zv_pop hB (by decide +kernel) rfl ?_
  refine zv_ald (ins := .aload_n 2) (len := 1) hB (by decide +kernel) rfl rfl rfl ?_
  refine zw_arg (j := 1) hB hR i0 i6 hL (by decide +kernel) (by decide) (by decide) rfl ?_
  refine zv_cv (i := 27) (c := 1) (mm2 := zxm205) (rm2 := (2, 120)) (va := [.inl (zw_a xs i 1)]) (S := []) hB (zE_up (by rfl) (by rfl) (by rfl) (by rfl) (by rfl) (zo_M_gone e2)) (by decide +kernel) rfl rfl (by decide) (by decide) rfl ?_
  refine zv_pop hB (by decide +kernel) rfl ?_
  refine zv_goto hB (off := 1273) (t := 1593) (by decide +kernel) rfl ?_
  exact zw_tail hB i0 i6 hL (k _ _ ⟨hI.law, k', yk_sea_fr hI.sea fun j hj => fr j (by omega), hI.tape, hI.tale, hI.kept, hI.so, hI.le, hI.ln⟩)
theorem zc_hour {good : Nat → List zNV → List zNV → List zNV → List (Int → Int) → Prop} {Lx : Nat} {xs : Nat → Int32} {i : Int} {f : Nat → Int} {g : Nat → Int → Int} (hL : Lx ≤ 3072) (hB : zw_B good) (hR : zw_R Lx xs good) (i0 : 0 ≤ i) (i6 : i + 6 ≤ Lx) (hI : zI f g) (k : ∀ f2 g2, zI f2 g2 → good 18 (zw_lc (i + 6)) [] (zE_F f2) (zE_G g2)) : good 323 (zw_lc i) [] (zE_F f) (zE_G g) := by
  obtain ⟨L, R⟩ := hI.law
  have tl := zI_tl hI
  obtain ⟨v0, v1, v2, e1, e2, k', fr⟩ := yo_hour (n := (zw_a xs i 1)) (h := (f 1)) (m := (g 67)) hI.sky
  refine zv_ald (ins := .aload_n 1) (len := 1) hB (by decide +kernel) rfl rfl rfl ?_
  refine zw_arg (j := 1) hB hR i0 i6 hL (by decide +kernel) (by decide) (by decide) rfl ?_
  refine zv_cv (i := 28) (c := 0) (mm2 := zxm20) (rm2 := (1, 60)) (va := [.inl (zw_a xs i 1)]) (S := []) hB (zE_up (by rfl) (by rfl) (by rfl) (by rfl) (by rfl) (zo_X_hour e1)) (by decide +kernel) rfl rfl (by decide) (by decide) rfl ?_
  refine zv_pop hB (by decide +kernel) rfl ?_
  refine zv_ald (ins := .aload_n 2) (len := 1) hB (by decide +kernel) rfl rfl rfl ?_
  refine zw_arg (j := 1) hB hR i0 i6 hL (by decide +kernel) (by decide) (by decide) rfl ?_
  refine zv_cv (i := 31) (c := 1) (mm2 := zxm206) (rm2 := (1, 60)) (va := [.inl (zw_a xs i 1)]) (S := []) hB (zE_up (by rfl) (by rfl) (by rfl) (by rfl) (by rfl) (zo_M_hour e2)) (by decide +kernel) rfl rfl (by decide) (by decide) rfl ?_
  refine zv_pop hB (by decide +kernel) rfl ?_
  refine zv_goto hB (off := 1250) (t := 1593) (by decide +kernel) rfl ?_
  exact zw_tail hB i0 i6 hL (k _ _ ⟨hI.law, k', yk_sea_fr hI.sea fun j hj => fr j (by omega), hI.tape, hI.tale, hI.kept, hI.so, hI.le, hI.ln⟩)
theorem zc_clouds {good : Nat → List zNV → List zNV → List zNV → List (Int → Int) → Prop} {Lx : Nat} {xs : Nat → Int32} {i : Int} {f : Nat → Int} {g : Nat → Int → Int} (hL : Lx ≤ 3072) (hB : zw_B good) (hR : zw_R Lx xs good) (i0 : 0 ≤ i) (i6 : i + 6 ≤ Lx) (hI : zI f g) (k : ∀ f2 g2, zI f2 g2 → good 18 (zw_lc (i + 6)) [] (zE_F f2) (zE_G g2)) : good 346 (zw_lc i) [] (zE_F f) (zE_G g) := by
  obtain ⟨L, R⟩ := hI.law
  have tl := zI_tl hI
  obtain ⟨v0, v1, v2, e1, e2, k', fr⟩ := yo_clouds (n := (zw_a xs i 1)) (cl := (f 2)) (m := (g 67)) hI.sky
  refine zv_ald (ins := .aload_n 1) (len := 1) hB (by decide +kernel) rfl rfl rfl ?_
  refine zw_arg (j := 1) hB hR i0 i6 hL (by decide +kernel) (by decide) (by decide) rfl ?_
  refine zv_cv (i := 32) (c := 0) (mm2 := zxm21) (rm2 := (1, 60)) (va := [.inl (zw_a xs i 1)]) (S := []) hB (zE_up (by rfl) (by rfl) (by rfl) (by rfl) (by rfl) (zo_X_clouds e1)) (by decide +kernel) rfl rfl (by decide) (by decide) rfl ?_
  refine zv_pop hB (by decide +kernel) rfl ?_
  refine zv_ald (ins := .aload_n 2) (len := 1) hB (by decide +kernel) rfl rfl rfl ?_
  refine zw_arg (j := 1) hB hR i0 i6 hL (by decide +kernel) (by decide) (by decide) rfl ?_
  refine zv_cv (i := 35) (c := 1) (mm2 := zxm207) (rm2 := (1, 60)) (va := [.inl (zw_a xs i 1)]) (S := []) hB (zE_up (by rfl) (by rfl) (by rfl) (by rfl) (by rfl) (zo_M_clouds e2)) (by decide +kernel) rfl rfl (by decide) (by decide) rfl ?_
  refine zv_pop hB (by decide +kernel) rfl ?_
  refine zv_goto hB (off := 1227) (t := 1593) (by decide +kernel) rfl ?_
  exact zw_tail hB i0 i6 hL (k _ _ ⟨hI.law, k', yk_sea_fr hI.sea fun j hj => fr j (by omega), hI.tape, hI.tale, hI.kept, hI.so, hI.le, hI.ln⟩)
theorem zc_sight {good : Nat → List zNV → List zNV → List zNV → List (Int → Int) → Prop} {Lx : Nat} {xs : Nat → Int32} {i : Int} {f : Nat → Int} {g : Nat → Int → Int} (hL : Lx ≤ 3072) (hB : zw_B good) (hR : zw_R Lx xs good) (i0 : 0 ≤ i) (i6 : i + 6 ≤ Lx) (hI : zI f g) (k : ∀ f2 g2, zI f2 g2 → good 18 (zw_lc (i + 6)) [] (zE_F f2) (zE_G g2)) : good 369 (zw_lc i) [] (zE_F f) (zE_G g) := by
  obtain ⟨L, R⟩ := hI.law
  have tl := zI_tl hI
  obtain ⟨v0, v1, v2, v3, e1, e2, k', fr⟩ := yo_sight (n := (zw_a xs i 1)) (n2 := (zw_a xs i 2)) (sc := (f 3)) (sr := (f 4)) (m := (g 67)) hI.sky
  refine zv_ald (ins := .aload_n 1) (len := 1) hB (by decide +kernel) rfl rfl rfl ?_
  refine zw_arg (j := 1) hB hR i0 i6 hL (by decide +kernel) (by decide) (by decide) rfl ?_
  refine zw_arg (j := 2) hB hR i0 i6 hL (by decide +kernel) (by decide) (by decide) rfl ?_
  refine zv_cv (i := 36) (c := 0) (mm2 := zxm22) (rm2 := (1, 60)) (va := [.inl (zw_a xs i 1), .inl (zw_a xs i 2)]) (S := []) hB (zE_up (by rfl) (by rfl) (by rfl) (by rfl) (by rfl) (zo_X_sight e1)) (by decide +kernel) rfl rfl (by decide) (by decide) rfl ?_
  refine zv_pop hB (by decide +kernel) rfl ?_
  refine zv_ald (ins := .aload_n 2) (len := 1) hB (by decide +kernel) rfl rfl rfl ?_
  refine zw_arg (j := 1) hB hR i0 i6 hL (by decide +kernel) (by decide) (by decide) rfl ?_
  refine zw_arg (j := 2) hB hR i0 i6 hL (by decide +kernel) (by decide) (by decide) rfl ?_
  refine zv_cv (i := 40) (c := 1) (mm2 := zxm208) (rm2 := (1, 60)) (va := [.inl (zw_a xs i 1), .inl (zw_a xs i 2)]) (S := []) hB (zE_up (by rfl) (by rfl) (by rfl) (by rfl) (by rfl) (zo_M_sight e2)) (by decide +kernel) rfl rfl (by decide) (by decide) rfl ?_
  refine zv_pop hB (by decide +kernel) rfl ?_
  refine zv_goto hB (off := 1194) (t := 1593) (by decide +kernel) rfl ?_
  exact zw_tail hB i0 i6 hL (k _ _ ⟨hI.law, k', yk_sea_fr hI.sea fun j hj => fr j (by omega) (by omega), hI.tape, hI.tale, hI.kept, hI.so, hI.le, hI.ln⟩)
theorem zc_land {good : Nat → List zNV → List zNV → List zNV → List (Int → Int) → Prop} {Lx : Nat} {xs : Nat → Int32} {i : Int} {f : Nat → Int} {g : Nat → Int → Int} (hL : Lx ≤ 3072) (hB : zw_B good) (hR : zw_R Lx xs good) (i0 : 0 ≤ i) (i6 : i + 6 ≤ Lx) (hI : zI f g) (k : ∀ f2 g2, zI f2 g2 → good 18 (zw_lc (i + 6)) [] (zE_F f2) (zE_G g2)) : good 402 (zw_lc i) [] (zE_F f) (zE_G g) := by
  obtain ⟨L, R⟩ := hI.law
  have tl := zI_tl hI
  obtain ⟨v0, v1, v2, e1, e2, z', fr⟩ := yo_land (x := (zw_a xs i 1)) (y := (zw_a xs i 2)) (b := (if zw_a xs i 3 = 0 then 0 else 1)) (ts := (f 5)) (gp := (g 5)) (gl := (g 6)) (m := (g 67)) hI.sea
  refine zv_ald (ins := .aload_n 1) (len := 1) hB (by decide +kernel) rfl rfl rfl ?_
  refine zw_arg (j := 1) hB hR i0 i6 hL (by decide +kernel) (by decide) (by decide) rfl ?_
  refine zw_arg (j := 2) hB hR i0 i6 hL (by decide +kernel) (by decide) (by decide) rfl ?_
  refine zw_arg (j := 3) hB hR i0 i6 hL (by decide +kernel) (by decide) (by decide) rfl ?_
  refine zw_bool (pc := 418) hB (by decide +kernel) (by decide +kernel) (by decide +kernel) (by decide +kernel) rfl rfl ?_
  refine zv_cv (i := 41) (c := 0) (mm2 := zxm23) (rm2 := (2, 120)) (va := [.inl (zw_a xs i 1), .inl (zw_a xs i 2), .inl (if zw_a xs i 3 = 0 then 0 else 1)]) (S := []) hB (zE_up (by rfl) (by rfl) (by rfl) (by rfl) (by rfl) (zo_X_land e1)) (by decide +kernel) rfl rfl (by decide) (by decide) rfl ?_
  refine zv_pop hB (by decide +kernel) rfl ?_
  refine zv_ald (ins := .aload_n 2) (len := 1) hB (by decide +kernel) rfl rfl rfl ?_
  refine zw_arg (j := 1) hB hR i0 i6 hL (by decide +kernel) (by decide) (by decide) rfl ?_
  refine zw_arg (j := 2) hB hR i0 i6 hL (by decide +kernel) (by decide) (by decide) rfl ?_
  refine zw_arg (j := 3) hB hR i0 i6 hL (by decide +kernel) (by decide) (by decide) rfl ?_
  refine zw_bool (pc := 446) hB (by decide +kernel) (by decide +kernel) (by decide +kernel) (by decide +kernel) rfl rfl ?_
  refine zv_cv (i := 45) (c := 1) (mm2 := zxm209) (rm2 := (2, 120)) (va := [.inl (zw_a xs i 1), .inl (zw_a xs i 2), .inl (if zw_a xs i 3 = 0 then 0 else 1)]) (S := []) hB (zE_up (by rfl) (by rfl) (by rfl) (by rfl) (by rfl) (zo_M_land e2)) (by decide +kernel) rfl rfl (by decide) (by decide) rfl ?_
  refine zv_pop hB (by decide +kernel) rfl ?_
  refine zv_goto hB (off := 1135) (t := 1593) (by decide +kernel) rfl ?_
  exact zw_tail hB i0 i6 hL (k _ _ ⟨hI.law, yk_sky_fr hI.sky fun j hj => fr j (by omega), z', hI.tape, hI.tale, hI.kept, hI.so, hI.le, hI.ln⟩)
theorem zc_ship {good : Nat → List zNV → List zNV → List zNV → List (Int → Int) → Prop} {Lx : Nat} {xs : Nat → Int32} {i : Int} {f : Nat → Int} {g : Nat → Int → Int} (hL : Lx ≤ 3072) (hB : zw_B good) (hR : zw_R Lx xs good) (i0 : 0 ≤ i) (i6 : i + 6 ≤ Lx) (hI : zI f g) (k : ∀ f2 g2, zI f2 g2 → good 18 (zw_lc (i + 6)) [] (zE_F f2) (zE_G g2)) : good 461 (zw_lc i) [] (zE_F f) (zE_G g) := by
  obtain ⟨L, R⟩ := hI.law
  have tl := zI_tl hI
  obtain ⟨v0, v1, v2, v3, e1, e2, z', fr⟩ := yo_ship (s := (zw_a xs i 1)) (x := (zw_a xs i 2)) (y := (zw_a xs i 3)) (ts := (f 5)) (gl := (g 6)) (gp := (g 5)) (m := (g 67)) hI.sea
  refine zv_ald (ins := .aload_n 1) (len := 1) hB (by decide +kernel) rfl rfl rfl ?_
  refine zw_arg (j := 1) hB hR i0 i6 hL (by decide +kernel) (by decide) (by decide) rfl ?_
  refine zw_arg (j := 2) hB hR i0 i6 hL (by decide +kernel) (by decide) (by decide) rfl ?_
  refine zw_arg (j := 3) hB hR i0 i6 hL (by decide +kernel) (by decide) (by decide) rfl ?_
  refine zv_cv (i := 46) (c := 0) (mm2 := zxm28) (rm2 := (2, 120)) (va := [.inl (zw_a xs i 1), .inl (zw_a xs i 2), .inl (zw_a xs i 3)]) (S := []) hB (zE_up (by rfl) (by rfl) (by rfl) (by rfl) (by rfl) (zo_X_ship e1)) (by decide +kernel) rfl rfl (by decide) (by decide) rfl ?_
  refine zv_pop hB (by decide +kernel) rfl ?_
  refine zv_ald (ins := .aload_n 2) (len := 1) hB (by decide +kernel) rfl rfl rfl ?_
  refine zw_arg (j := 1) hB hR i0 i6 hL (by decide +kernel) (by decide) (by decide) rfl ?_
  refine zw_arg (j := 2) hB hR i0 i6 hL (by decide +kernel) (by decide) (by decide) rfl ?_
  refine zw_arg (j := 3) hB hR i0 i6 hL (by decide +kernel) (by decide) (by decide) rfl ?_
  refine zv_cv (i := 49) (c := 1) (mm2 := zxm211) (rm2 := (1, 60)) (va := [.inl (zw_a xs i 1), .inl (zw_a xs i 2), .inl (zw_a xs i 3)]) (S := []) hB (zE_up (by rfl) (by rfl) (by rfl) (by rfl) (by rfl) (zo_M_ship e2)) (by decide +kernel) rfl rfl (by decide) (by decide) rfl ?_
  refine zv_pop hB (by decide +kernel) rfl ?_
  refine zv_goto hB (off := 1092) (t := 1593) (by decide +kernel) rfl ?_
  exact zw_tail hB i0 i6 hL (k _ _ ⟨hI.law, yk_sky_fr hI.sky fun j hj => fr j (by omega), z', hI.tape, hI.tale, hI.kept, hI.so, hI.le, hI.ln⟩)
theorem zc_feed {good : Nat → List zNV → List zNV → List zNV → List (Int → Int) → Prop} {Lx : Nat} {xs : Nat → Int32} {i : Int} {f : Nat → Int} {g : Nat → Int → Int} (hL : Lx ≤ 3072) (hB : zw_B good) (hR : zw_R Lx xs good) (i0 : 0 ≤ i) (i6 : i + 6 ≤ Lx) (hI : zI f g) (k : ∀ f2 g2, zI f2 g2 → good 18 (zw_lc (i + 6)) [] (zE_F f2) (zE_G g2)) : good 504 (zw_lc i) [] (zE_F f) (zE_G g) := by
  obtain ⟨L, R⟩ := hI.law
  have tl := zI_tl hI
  obtain ⟨v0, v1, v2, v3, v4, e1, e2, p'⟩ := yo_feed (a := (zw_a xs i 1)) (b := (zw_a xs i 2)) (c := (zw_a xs i 3)) (d := (zw_a xs i 4)) (e := (zw_a xs i 5)) (n := (f 6)) (T := (g 7)) (n2 := (f 74)) (M := (g 68)) hI.tape
  refine zv_ald (ins := .aload_n 1) (len := 1) hB (by decide +kernel) rfl rfl rfl ?_
  refine zw_arg (j := 1) hB hR i0 i6 hL (by decide +kernel) (by decide) (by decide) rfl ?_
  refine zw_arg (j := 2) hB hR i0 i6 hL (by decide +kernel) (by decide) (by decide) rfl ?_
  refine zw_arg (j := 3) hB hR i0 i6 hL (by decide +kernel) (by decide) (by decide) rfl ?_
  refine zw_arg (j := 4) hB hR i0 i6 hL (by decide +kernel) (by decide) (by decide) rfl ?_
  refine zw_arg (j := 5) hB hR i0 i6 hL (by decide +kernel) (by decide) (by decide) rfl ?_
  refine zv_cv (i := 50) (c := 0) (mm2 := zxm32) (rm2 := (1, 60)) (va := [.inl (zw_a xs i 1), .inl (zw_a xs i 2), .inl (zw_a xs i 3), .inl (zw_a xs i 4), .inl (zw_a xs i 5)]) (S := []) hB (zE_up (by rfl) (by rfl) (by rfl) (by rfl) (by rfl) (zo_X_feed e1)) (by decide +kernel) rfl rfl (by decide) (by decide) rfl ?_
  refine zv_pop hB (by decide +kernel) rfl ?_
  refine zv_ald (ins := .aload_n 2) (len := 1) hB (by decide +kernel) rfl rfl rfl ?_
  refine zw_arg (j := 1) hB hR i0 i6 hL (by decide +kernel) (by decide) (by decide) rfl ?_
  refine zw_arg (j := 2) hB hR i0 i6 hL (by decide +kernel) (by decide) (by decide) rfl ?_
  refine zw_arg (j := 3) hB hR i0 i6 hL (by decide +kernel) (by decide) (by decide) rfl ?_
  refine zw_arg (j := 4) hB hR i0 i6 hL (by decide +kernel) (by decide) (by decide) rfl ?_
  refine zw_arg (j := 5) hB hR i0 i6 hL (by decide +kernel) (by decide) (by decide) rfl ?_
  refine zv_cv (i := 54) (c := 1) (mm2 := zxm213) (rm2 := (1, 60)) (va := [.inl (zw_a xs i 1), .inl (zw_a xs i 2), .inl (zw_a xs i 3), .inl (zw_a xs i 4), .inl (zw_a xs i 5)]) (S := []) hB (zE_up (by rfl) (by rfl) (by rfl) (by rfl) (by rfl) (zo_M_feed e2)) (by decide +kernel) rfl rfl (by decide) (by decide) rfl ?_
  refine zv_pop hB (by decide +kernel) rfl ?_
  refine zv_goto hB (off := 1029) (t := 1593) (by decide +kernel) rfl ?_
  exact zw_tail hB i0 i6 hL (k _ _ ⟨hI.law, hI.sky, hI.sea, p', hI.tale, hI.kept, hI.so, hI.le, hI.ln⟩)
theorem zc_starIs {good : Nat → List zNV → List zNV → List zNV → List (Int → Int) → Prop} {Lx : Nat} {xs : Nat → Int32} {i : Int} {f : Nat → Int} {g : Nat → Int → Int} (hL : Lx ≤ 3072) (hB : zw_B good) (hR : zw_R Lx xs good) (i0 : 0 ≤ i) (i6 : i + 6 ≤ Lx) (hI : zI f g) (k : ∀ f2 g2, zI f2 g2 → good 18 (zw_lc (i + 6)) [] (zE_F f2) (zE_G g2)) : good 613 (zw_lc i) [] (zE_F f) (zE_G g) := by
  obtain ⟨L, R⟩ := hI.law
  have tl := zI_tl hI
  obtain ⟨v0, e1, e2⟩ := yo_starIs (i := (zw_a xs i 1)) (w := (zw_a xs i 2)) (t := (f 0)) (h := (f 1)) (co := (g 0)) (ro := (g 1)) (br := (g 2)) (wc := (g 3)) (wr := (g 4)) (m := (g 67)) hI.sky
  refine zv_ald (ins := .aload_n 1) (len := 1) hB (by decide +kernel) rfl rfl rfl ?_
  refine zw_arg (j := 1) hB hR i0 i6 hL (by decide +kernel) (by decide) (by decide) rfl ?_
  refine zw_arg (j := 2) hB hR i0 i6 hL (by decide +kernel) (by decide) (by decide) rfl ?_
  refine zv_cv (i := 64) (c := 0) (mm2 := zxm81) (rm2 := (1, 60)) (va := [.inl (zw_a xs i 1), .inl (zw_a xs i 2)]) (S := []) hB (zE_up (by rfl) (by rfl) (by rfl) (by rfl) (by rfl) (zo_X_starIs e1)) (by decide +kernel) rfl rfl (by decide) (by decide) rfl ?_
  refine zv_pop hB (by decide +kernel) rfl ?_
  refine zv_ald (ins := .aload_n 2) (len := 1) hB (by decide +kernel) rfl rfl rfl ?_
  refine zw_arg (j := 1) hB hR i0 i6 hL (by decide +kernel) (by decide) (by decide) rfl ?_
  refine zw_arg (j := 2) hB hR i0 i6 hL (by decide +kernel) (by decide) (by decide) rfl ?_
  refine zv_cv (i := 68) (c := 1) (mm2 := zxm237) (rm2 := (2, 120)) (va := [.inl (zw_a xs i 1), .inl (zw_a xs i 2)]) (S := []) hB (zE_up (by rfl) (by rfl) (by rfl) (by rfl) (by rfl) (zo_M_starIs e2)) (by decide +kernel) rfl rfl (by decide) (by decide) rfl ?_
  refine zv_pop hB (by decide +kernel) rfl ?_
  refine zv_goto hB (off := 950) (t := 1593) (by decide +kernel) rfl ?_
  exact zw_tail hB i0 i6 hL (k _ _ ⟨hI.law, hI.sky, hI.sea, hI.tape, hI.tale, hI.kept, hI.so, hI.le, hI.ln⟩)
end
section
/-! The calls of the law, case by case. -/
theorem zc_seen {good : Nat → List zNV → List zNV → List zNV → List (Int → Int) → Prop} {Lx : Nat} {xs : Nat → Int32} {i : Int} {f : Nat → Int} {g : Nat → Int → Int} (hL : Lx ≤ 3072) (hB : zw_B good) (hR : zw_R Lx xs good) (i0 : 0 ≤ i) (i6 : i + 6 ≤ Lx) (hI : zI f g) (k : ∀ f2 g2, zI f2 g2 → good 18 (zw_lc (i + 6)) [] (zE_F f2) (zE_G g2)) : good 646 (zw_lc i) [] (zE_F f) (zE_G g) := by
  obtain ⟨L, R⟩ := hI.law
  have tl := zI_tl hI
  obtain ⟨v0, v1, v2, v3, v4, v5, v6, v7, v8, v9, v10, v11, e1, e2⟩ := yo_seen (x := (zw_a xs i 1)) (y := (zw_a xs i 2)) (f3 := (f 25)) (f4 := (f 26)) (f5 := (f 27)) (h := (f 1)) (u := (f 28)) (f8 := (f 29)) (t := (f 0)) (sc := (f 3)) (sr := (f 4)) (cl := (f 2)) (tS := (f 30)) (f14 := (f 31)) (nc := (f 32)) (f16 := (f 33)) (sP := (f 34)) (g0 := (g 15)) (g1 := (g 16)) (co := (g 0)) (ro := (g 1)) (br := (g 2)) (kd := (g 17)) (hf := (g 18)) (to := (g 19)) (K := (g 20)) (g9 := (g 21)) (V := (g 22)) (mc := (f 83)) (m := (g 67)) (mk := (g 76)) (g2 := (g 80)) (mh := (g 78)) (mt := (g 79)) (C := (g 75)) (g6 := (g 81)) R hI.sky
  refine zv_ald (ins := .aload_n 1) (len := 1) hB (by decide +kernel) rfl rfl rfl ?_
  refine zw_arg (j := 1) hB hR i0 i6 hL (by decide +kernel) (by decide) (by decide) rfl ?_
  refine zw_arg (j := 2) hB hR i0 i6 hL (by decide +kernel) (by decide) (by decide) rfl ?_
  refine zv_cv (i := 69) (c := 0) (mm2 := zxm83) (rm2 := (5, 300)) (va := [.inl (zw_a xs i 1), .inl (zw_a xs i 2)]) (S := []) hB (zE_up (by rfl) (by rfl) (by rfl) (by rfl) (by rfl) (zo_X_seen e1)) (by decide +kernel) rfl rfl (by decide) (by decide) rfl ?_
  refine zv_pop hB (by decide +kernel) rfl ?_
  refine zv_ald (ins := .aload_n 2) (len := 1) hB (by decide +kernel) rfl rfl rfl ?_
  refine zw_arg (j := 1) hB hR i0 i6 hL (by decide +kernel) (by decide) (by decide) rfl ?_
  refine zw_arg (j := 2) hB hR i0 i6 hL (by decide +kernel) (by decide) (by decide) rfl ?_
  refine zv_cv (i := 72) (c := 1) (mm2 := zxm239) (rm2 := (5, 300)) (va := [.inl (zw_a xs i 1), .inl (zw_a xs i 2)]) (S := []) hB (zE_up (by rfl) (by rfl) (by rfl) (by rfl) (by rfl) (zo_M_seen e2)) (by decide +kernel) rfl rfl (by decide) (by decide) rfl ?_
  refine zv_pop hB (by decide +kernel) rfl ?_
  refine zv_goto hB (off := 917) (t := 1593) (by decide +kernel) rfl ?_
  exact zw_tail hB i0 i6 hL (k _ _ ⟨hI.law, hI.sky, hI.sea, hI.tape, hI.tale, hI.kept, hI.so, hI.le, hI.ln⟩)
theorem zc_line {good : Nat → List zNV → List zNV → List zNV → List (Int → Int) → Prop} {Lx : Nat} {xs : Nat → Int32} {i : Int} {f : Nat → Int} {g : Nat → Int → Int} (hL : Lx ≤ 3072) (hB : zw_B good) (hR : zw_R Lx xs good) (i0 : 0 ≤ i) (i6 : i + 6 ≤ Lx) (hI : zI f g) (k : ∀ f2 g2, zI f2 g2 → good 18 (zw_lc (i + 6)) [] (zE_F f2) (zE_G g2)) : good 679 (zw_lc i) [] (zE_F f) (zE_G g) := by
  obtain ⟨L, R⟩ := hI.law
  have tl := zI_tl hI
  obtain ⟨v0, v1, v2, v3, v4, v5, v6, v7, v8, v9, v10, v11, v12, v13, v14, v15, e1, e2⟩ := yo_line (x := (zw_a xs i 1)) (y := (zw_a xs i 2)) (a := (zw_a xs i 3)) (b := (zw_a xs i 4)) (t := (f 0)) (f4 := (f 25)) (f5 := (f 26)) (f6 := (f 27)) (h := (f 1)) (u := (f 28)) (f9 := (f 29)) (sc := (f 3)) (sr := (f 4)) (cl := (f 2)) (tS := (f 30)) (f14 := (f 31)) (nc := (f 32)) (f16 := (f 33)) (sP := (f 34)) (tL := (f 35)) (lP := (f 36)) (g0 := (g 15)) (g1 := (g 16)) (co := (g 0)) (ro := (g 1)) (br := (g 2)) (kd := (g 17)) (hf := (g 18)) (to := (g 19)) (K := (g 20)) (g9 := (g 21)) (V := (g 22)) (g11 := (g 23)) (g12 := (g 24)) (mc := (f 83)) (f1 := (f 84)) (m := (g 67)) (mk := (g 76)) (g2 := (g 80)) (mh := (g 78)) (mt := (g 79)) (C := (g 75)) (g6 := (g 81)) (g7 := (g 82)) R hI.sky
  refine zv_ald (ins := .aload_n 1) (len := 1) hB (by decide +kernel) rfl rfl rfl ?_
  refine zw_arg (j := 1) hB hR i0 i6 hL (by decide +kernel) (by decide) (by decide) rfl ?_
  refine zw_arg (j := 2) hB hR i0 i6 hL (by decide +kernel) (by decide) (by decide) rfl ?_
  refine zw_arg (j := 3) hB hR i0 i6 hL (by decide +kernel) (by decide) (by decide) rfl ?_
  refine zw_arg (j := 4) hB hR i0 i6 hL (by decide +kernel) (by decide) (by decide) rfl ?_
  refine zv_cv (i := 73) (c := 0) (mm2 := zxm95) (rm2 := (6, 360)) (va := [.inl (zw_a xs i 1), .inl (zw_a xs i 2), .inl (zw_a xs i 3), .inl (zw_a xs i 4)]) (S := []) hB (zE_up (by rfl) (by rfl) (by rfl) (by rfl) (by rfl) (zo_X_line e1)) (by decide +kernel) rfl rfl (by decide) (by decide) rfl ?_
  refine zv_pop hB (by decide +kernel) rfl ?_
  refine zv_ald (ins := .aload_n 2) (len := 1) hB (by decide +kernel) rfl rfl rfl ?_
  refine zw_arg (j := 1) hB hR i0 i6 hL (by decide +kernel) (by decide) (by decide) rfl ?_
  refine zw_arg (j := 2) hB hR i0 i6 hL (by decide +kernel) (by decide) (by decide) rfl ?_
  refine zw_arg (j := 3) hB hR i0 i6 hL (by decide +kernel) (by decide) (by decide) rfl ?_
  refine zw_arg (j := 4) hB hR i0 i6 hL (by decide +kernel) (by decide) (by decide) rfl ?_
  refine zv_cv (i := 77) (c := 1) (mm2 := zxm251) (rm2 := (6, 360)) (va := [.inl (zw_a xs i 1), .inl (zw_a xs i 2), .inl (zw_a xs i 3), .inl (zw_a xs i 4)]) (S := []) hB (zE_up (by rfl) (by rfl) (by rfl) (by rfl) (by rfl) (zo_M_line e2)) (by decide +kernel) rfl rfl (by decide) (by decide) rfl ?_
  refine zv_pop hB (by decide +kernel) rfl ?_
  refine zv_goto hB (off := 864) (t := 1593) (by decide +kernel) rfl ?_
  exact zw_tail hB i0 i6 hL (k _ _ ⟨hI.law, hI.sky, hI.sea, hI.tape, hI.tale, hI.kept, hI.so, hI.le, hI.ln⟩)
theorem zc_sky {good : Nat → List zNV → List zNV → List zNV → List (Int → Int) → Prop} {Lx : Nat} {xs : Nat → Int32} {i : Int} {f : Nat → Int} {g : Nat → Int → Int} (hL : Lx ≤ 3072) (hB : zw_B good) (hR : zw_R Lx xs good) (i0 : 0 ≤ i) (i6 : i + 6 ≤ Lx) (hI : zI f g) (k : ∀ f2 g2, zI f2 g2 → good 18 (zw_lc (i + 6)) [] (zE_F f2) (zE_G g2)) : good 732 (zw_lc i) [] (zE_F f) (zE_G g) := by
  obtain ⟨L, R⟩ := hI.law
  have tl := zI_tl hI
  obtain ⟨v0, v1, v2, v3, v4, v5, v6, v7, v8, v9, v10, v11, v12, v13, v14, v15, v16, v17, e1, e2⟩ := yo_sky (x := (zw_a xs i 1)) (y := (zw_a xs i 2)) (a := (zw_a xs i 3)) (f3 := (f 25)) (f4 := (f 26)) (f5 := (f 27)) (h := (f 1)) (u := (f 28)) (f8 := (f 29)) (t := (f 0)) (sc := (f 3)) (sr := (f 4)) (cl := (f 2)) (tS := (f 30)) (f14 := (f 31)) (nc := (f 32)) (f16 := (f 33)) (sP := (f 34)) (tL := (f 35)) (lP := (f 36)) (g0 := (g 15)) (g1 := (g 16)) (co := (g 0)) (ro := (g 1)) (br := (g 2)) (kd := (g 17)) (hf := (g 18)) (to := (g 19)) (K := (g 20)) (g9 := (g 21)) (V := (g 22)) (g11 := (g 23)) (g12 := (g 24)) (mc := (f 83)) (f1 := (f 84)) (f2 := (f 85)) (f33 := (f 86)) (m := (g 67)) (mk := (g 76)) (g2 := (g 80)) (mh := (g 78)) (mt := (g 79)) (C := (g 75)) (g6 := (g 81)) (g7 := (g 82)) R hI.sky
  refine zv_ald (ins := .aload_n 1) (len := 1) hB (by decide +kernel) rfl rfl rfl ?_
  refine zw_arg (j := 1) hB hR i0 i6 hL (by decide +kernel) (by decide) (by decide) rfl ?_
  refine zw_arg (j := 2) hB hR i0 i6 hL (by decide +kernel) (by decide) (by decide) rfl ?_
  refine zw_arg (j := 3) hB hR i0 i6 hL (by decide +kernel) (by decide) (by decide) rfl ?_
  refine zv_cv (i := 78) (c := 0) (mm2 := zxm100) (rm2 := (6, 360)) (va := [.inl (zw_a xs i 1), .inl (zw_a xs i 2), .inl (zw_a xs i 3)]) (S := []) hB (zE_up (by rfl) (by rfl) (by rfl) (by rfl) (by rfl) (zo_X_sky e1)) (by decide +kernel) rfl rfl (by decide) (by decide) rfl ?_
  refine zv_pop hB (by decide +kernel) rfl ?_
  refine zv_ald (ins := .aload_n 2) (len := 1) hB (by decide +kernel) rfl rfl rfl ?_
  refine zw_arg (j := 1) hB hR i0 i6 hL (by decide +kernel) (by decide) (by decide) rfl ?_
  refine zw_arg (j := 2) hB hR i0 i6 hL (by decide +kernel) (by decide) (by decide) rfl ?_
  refine zw_arg (j := 3) hB hR i0 i6 hL (by decide +kernel) (by decide) (by decide) rfl ?_
  refine zv_cv (i := 82) (c := 1) (mm2 := zxm254) (rm2 := (6, 360)) (va := [.inl (zw_a xs i 1), .inl (zw_a xs i 2), .inl (zw_a xs i 3)]) (S := []) hB (zE_up (by rfl) (by rfl) (by rfl) (by rfl) (by rfl) (zo_M_sky e2)) (by decide +kernel) rfl rfl (by decide) (by decide) rfl ?_
  refine zv_pop hB (by decide +kernel) rfl ?_
  refine zv_goto hB (off := 821) (t := 1593) (by decide +kernel) rfl ?_
  exact zw_tail hB i0 i6 hL (k _ _ ⟨hI.law, hI.sky, hI.sea, hI.tape, hI.tale, hI.kept, hI.so, hI.le, hI.ln⟩)
theorem zc_figure {good : Nat → List zNV → List zNV → List zNV → List (Int → Int) → Prop} {Lx : Nat} {xs : Nat → Int32} {i : Int} {f : Nat → Int} {g : Nat → Int → Int} (hL : Lx ≤ 3072) (hB : zw_B good) (hR : zw_R Lx xs good) (i0 : 0 ≤ i) (i6 : i + 6 ≤ Lx) (hI : zI f g) (k : ∀ f2 g2, zI f2 g2 → good 18 (zw_lc (i + 6)) [] (zE_F f2) (zE_G g2)) : good 775 (zw_lc i) [] (zE_F f) (zE_G g) := by
  obtain ⟨L, R⟩ := hI.law
  have tl := zI_tl hI
  obtain ⟨v0, v1, v2, v3, v4, v5, v6, v7, v8, v9, v10, v11, v12, v13, v14, v15, e1, e2⟩ := yo_figure (x := (zw_a xs i 1)) (y := (zw_a xs i 2)) (a := (zw_a xs i 3)) (t := (f 0)) (f4 := (f 25)) (f5 := (f 26)) (f6 := (f 27)) (h := (f 1)) (u := (f 28)) (f9 := (f 29)) (sc := (f 3)) (sr := (f 4)) (cl := (f 2)) (tS := (f 30)) (f14 := (f 31)) (nc := (f 32)) (f16 := (f 33)) (sP := (f 34)) (tL := (f 35)) (lP := (f 36)) (g0 := (g 15)) (g1 := (g 16)) (co := (g 0)) (ro := (g 1)) (br := (g 2)) (kd := (g 17)) (hf := (g 18)) (to := (g 19)) (K := (g 20)) (g9 := (g 21)) (V := (g 22)) (g11 := (g 23)) (g12 := (g 24)) (mc := (f 83)) (f1 := (f 84)) (m := (g 67)) (mk := (g 76)) (g2 := (g 80)) (mh := (g 78)) (mt := (g 79)) (C := (g 75)) (g6 := (g 81)) (g7 := (g 82)) R hI.sky
  refine zv_ald (ins := .aload_n 1) (len := 1) hB (by decide +kernel) rfl rfl rfl ?_
  refine zw_arg (j := 1) hB hR i0 i6 hL (by decide +kernel) (by decide) (by decide) rfl ?_
  refine zw_arg (j := 2) hB hR i0 i6 hL (by decide +kernel) (by decide) (by decide) rfl ?_
  refine zw_arg (j := 3) hB hR i0 i6 hL (by decide +kernel) (by decide) (by decide) rfl ?_
  refine zv_cv (i := 83) (c := 0) (mm2 := zxm110) (rm2 := (6, 360)) (va := [.inl (zw_a xs i 1), .inl (zw_a xs i 2), .inl (zw_a xs i 3)]) (S := []) hB (zE_up (by rfl) (by rfl) (by rfl) (by rfl) (by rfl) (zo_X_figure e1)) (by decide +kernel) rfl rfl (by decide) (by decide) rfl ?_
  refine zv_pop hB (by decide +kernel) rfl ?_
  refine zv_ald (ins := .aload_n 2) (len := 1) hB (by decide +kernel) rfl rfl rfl ?_
  refine zw_arg (j := 1) hB hR i0 i6 hL (by decide +kernel) (by decide) (by decide) rfl ?_
  refine zw_arg (j := 2) hB hR i0 i6 hL (by decide +kernel) (by decide) (by decide) rfl ?_
  refine zw_arg (j := 3) hB hR i0 i6 hL (by decide +kernel) (by decide) (by decide) rfl ?_
  refine zv_cv (i := 86) (c := 1) (mm2 := zxm262) (rm2 := (6, 360)) (va := [.inl (zw_a xs i 1), .inl (zw_a xs i 2), .inl (zw_a xs i 3)]) (S := []) hB (zE_up (by rfl) (by rfl) (by rfl) (by rfl) (by rfl) (zo_M_figure e2)) (by decide +kernel) rfl rfl (by decide) (by decide) rfl ?_
  refine zv_pop hB (by decide +kernel) rfl ?_
  refine zv_goto hB (off := 778) (t := 1593) (by decide +kernel) rfl ?_
  exact zw_tail hB i0 i6 hL (k _ _ ⟨hI.law, hI.sky, hI.sea, hI.tape, hI.tale, hI.kept, hI.so, hI.le, hI.ln⟩)
theorem zc_matched {good : Nat → List zNV → List zNV → List zNV → List (Int → Int) → Prop} {Lx : Nat} {xs : Nat → Int32} {i : Int} {f : Nat → Int} {g : Nat → Int → Int} (hL : Lx ≤ 3072) (hB : zw_B good) (hR : zw_R Lx xs good) (i0 : 0 ≤ i) (i6 : i + 6 ≤ Lx) (hI : zI f g) (k : ∀ f2 g2, zI f2 g2 → good 18 (zw_lc (i + 6)) [] (zE_F f2) (zE_G g2)) : good 818 (zw_lc i) [] (zE_F f) (zE_G g) := by
  obtain ⟨L, R⟩ := hI.law
  have tl := zI_tl hI
  obtain ⟨o1, e1, h1⟩ := yw_matchedX (x := (zw_a xs i 1)) (y := (zw_a xs i 2)) (w := (zw_a xs i 3)) (n := (f 37)) (f5 := (f 25)) (f6 := (f 26)) (f7 := (f 27)) (h := (f 1)) (u := (f 28)) (f10 := (f 29)) (t := (f 0)) (sc := (f 3)) (sr := (f 4)) (cl := (f 2)) (tS := (f 30)) (f16 := (f 31)) (nc := (f 32)) (f18 := (f 33)) (sP := (f 34)) (tL := (f 35)) (lP := (f 36)) (f22 := (f 38)) (f25 := (f 41)) (g0 := (g 15)) (g1 := (g 16)) (co := (g 0)) (ro := (g 1)) (br := (g 2)) (kd := (g 17)) (hf := (g 18)) (to := (g 19)) (K := (g 20)) (g9 := (g 21)) (V := (g 22)) (g11 := (g 23)) (g12 := (g 24)) (g13 := (g 25)) (g14 := (g 26)) (g15 := (g 27)) (g16 := (g 28)) R hI.sky hI.so
  obtain ⟨o2, e2, h2⟩ := yw_matchedM (x := (zw_a xs i 1)) (y := (zw_a xs i 2)) (w := (zw_a xs i 3)) (n := (f 88)) (mc := (f 83)) (f2 := (f 84)) (ni := (f 89)) (f4 := (f 90)) (m := (g 67)) (mk := (g 76)) (g2 := (g 80)) (mh := (g 78)) (mt := (g 79)) (C := (g 75)) (g6 := (g 81)) (g7 := (g 82)) (g8 := (g 87)) (g9 := (g 88)) (tf := (g 85)) (tt := (g 86)) (g12 := (g 89)) R hI.sky tl
  refine zv_ald (ins := .aload_n 1) (len := 1) hB (by decide +kernel) rfl rfl rfl ?_
  refine zw_arg (j := 1) hB hR i0 i6 hL (by decide +kernel) (by decide) (by decide) rfl ?_
  refine zw_arg (j := 2) hB hR i0 i6 hL (by decide +kernel) (by decide) (by decide) rfl ?_
  refine zw_arg (j := 3) hB hR i0 i6 hL (by decide +kernel) (by decide) (by decide) rfl ?_
  refine zv_cv (i := 87) (c := 0) (mm2 := zxm111) (rm2 := (14, 840)) (va := [.inl (zw_a xs i 1), .inl (zw_a xs i 2), .inl (zw_a xs i 3)]) (S := []) hB (zE_up (by rfl) (by rfl) (by rfl) (by rfl) (by rfl) (zo_X_matched e1)) (by decide +kernel) rfl rfl (by decide) (by decide) rfl ?_
  refine zv_pop hB (by decide +kernel) rfl ?_
  refine zv_ald (ins := .aload_n 2) (len := 1) hB (by decide +kernel) rfl rfl rfl ?_
  refine zw_arg (j := 1) hB hR i0 i6 hL (by decide +kernel) (by decide) (by decide) rfl ?_
  refine zw_arg (j := 2) hB hR i0 i6 hL (by decide +kernel) (by decide) (by decide) rfl ?_
  refine zw_arg (j := 3) hB hR i0 i6 hL (by decide +kernel) (by decide) (by decide) rfl ?_
  refine zv_cv (i := 90) (c := 1) (mm2 := zxm267) (rm2 := (6, 360)) (va := [.inl (zw_a xs i 1), .inl (zw_a xs i 2), .inl (zw_a xs i 3)]) (S := []) hB (zE_up (by rfl) (by rfl) (by rfl) (by rfl) (by rfl) (zo_M_matched e2)) (by decide +kernel) rfl rfl (by decide) (by decide) rfl ?_
  refine zv_pop hB (by decide +kernel) rfl ?_
  refine zv_goto hB (off := 735) (t := 1593) (by decide +kernel) rfl ?_
  exact zw_tail hB i0 i6 hL (k _ _ ⟨hI.law, hI.sky, hI.sea, hI.tape, hI.tale, hI.kept, h1, hI.le, hI.ln⟩)
theorem zc_where {good : Nat → List zNV → List zNV → List zNV → List (Int → Int) → Prop} {Lx : Nat} {xs : Nat → Int32} {i : Int} {f : Nat → Int} {g : Nat → Int → Int} (hL : Lx ≤ 3072) (hB : zw_B good) (hR : zw_R Lx xs good) (i0 : 0 ≤ i) (i6 : i + 6 ≤ Lx) (hI : zI f g) (k : ∀ f2 g2, zI f2 g2 → good 18 (zw_lc (i + 6)) [] (zE_F f2) (zE_G g2)) : good 861 (zw_lc i) [] (zE_F f) (zE_G g) := by
  obtain ⟨L, R⟩ := hI.law
  have tl := zI_tl hI
  obtain ⟨o1, e1, h1⟩ := yw_whereX (w := (zw_a xs i 1)) (n := (f 37)) (f5 := (f 25)) (f6 := (f 26)) (f7 := (f 27)) (h := (f 1)) (u := (f 28)) (f10 := (f 29)) (t := (f 0)) (sc := (f 3)) (sr := (f 4)) (cl := (f 2)) (tS := (f 30)) (f16 := (f 31)) (nc := (f 32)) (f18 := (f 33)) (sP := (f 34)) (f20 := (f 38)) (tL := (f 35)) (lP := (f 36)) (f25 := (f 41)) (g0 := (g 15)) (g1 := (g 16)) (co := (g 0)) (ro := (g 1)) (br := (g 2)) (kd := (g 17)) (hf := (g 18)) (to := (g 19)) (K := (g 20)) (g9 := (g 21)) (V := (g 22)) (g11 := (g 23)) (g12 := (g 24)) (g13 := (g 25)) (g14 := (g 26)) (g15 := (g 27)) (g16 := (g 28)) R hI.sky hI.so
  obtain ⟨o2, e2, h2⟩ := yw_whereM (w := (zw_a xs i 1)) (n := (f 88)) (mc := (f 83)) (f2 := (f 84)) (f3 := (f 90)) (ni := (f 89)) (m := (g 67)) (mk := (g 76)) (g2 := (g 80)) (mh := (g 78)) (mt := (g 79)) (C := (g 75)) (g6 := (g 81)) (g7 := (g 82)) (g8 := (g 87)) (g9 := (g 88)) (tf := (g 85)) (tt := (g 86)) (g12 := (g 89)) R hI.sky tl
  refine zv_ald (ins := .aload_n 1) (len := 1) hB (by decide +kernel) rfl rfl rfl ?_
  refine zw_arg (j := 1) hB hR i0 i6 hL (by decide +kernel) (by decide) (by decide) rfl ?_
  refine zv_cv (i := 91) (c := 0) (mm2 := zxm122) (rm2 := (14, 840)) (va := [.inl (zw_a xs i 1)]) (S := []) hB (zE_up (by rfl) (by rfl) (by rfl) (by rfl) (by rfl) (zo_X_where e1)) (by decide +kernel) rfl rfl (by decide) (by decide) rfl ?_
  refine zv_pop hB (by decide +kernel) rfl ?_
  refine zv_ald (ins := .aload_n 2) (len := 1) hB (by decide +kernel) rfl rfl rfl ?_
  refine zw_arg (j := 1) hB hR i0 i6 hL (by decide +kernel) (by decide) (by decide) rfl ?_
  refine zv_cv (i := 94) (c := 1) (mm2 := zxm271) (rm2 := (7, 420)) (va := [.inl (zw_a xs i 1)]) (S := []) hB (zE_up (by rfl) (by rfl) (by rfl) (by rfl) (by rfl) (zo_M_where e2)) (by decide +kernel) rfl rfl (by decide) (by decide) rfl ?_
  refine zv_pop hB (by decide +kernel) rfl ?_
  refine zv_goto hB (off := 712) (t := 1593) (by decide +kernel) rfl ?_
  exact zw_tail hB i0 i6 hL (k _ _ ⟨hI.law, hI.sky, hI.sea, hI.tape, hI.tale, hI.kept, h1, hI.le, hI.ln⟩)
theorem zc_when {good : Nat → List zNV → List zNV → List zNV → List (Int → Int) → Prop} {Lx : Nat} {xs : Nat → Int32} {i : Int} {f : Nat → Int} {g : Nat → Int → Int} (hL : Lx ≤ 3072) (hB : zw_B good) (hR : zw_R Lx xs good) (i0 : 0 ≤ i) (i6 : i + 6 ≤ Lx) (hI : zI f g) (k : ∀ f2 g2, zI f2 g2 → good 18 (zw_lc (i + 6)) [] (zE_F f2) (zE_G g2)) : good 884 (zw_lc i) [] (zE_F f) (zE_G g) := by
  obtain ⟨L, R⟩ := hI.law
  have tl := zI_tl hI
  obtain ⟨o1, e1, h1⟩ := yw_whenX (x := (zw_a xs i 1)) (y := (zw_a xs i 2)) (n := (f 37)) (t := (f 0)) (f3 := (f 42)) (h := (f 1)) (f5 := (f 43)) (u := (f 28)) (f7 := (f 44)) (cl := (f 2)) (f9 := (f 45)) (sc := (f 3)) (f11 := (f 46)) (sr := (f 4)) (f13 := (f 47)) (ch := (f 48)) (f15 := (f 49)) (f19 := (f 25)) (f20 := (f 26)) (f21 := (f 27)) (f22 := (f 29)) (tS := (f 30)) (f24 := (f 31)) (nc := (f 32)) (f26 := (f 33)) (sP := (f 34)) (f28 := (f 38)) (tL := (f 35)) (lP := (f 36)) (f33 := (f 41)) (co := (g 0)) (g1 := (g 29)) (ro := (g 1)) (g3 := (g 30)) (br := (g 2)) (g5 := (g 31)) (wc := (g 3)) (g7 := (g 32)) (wr := (g 4)) (g9 := (g 33)) (g10 := (g 15)) (g11 := (g 16)) (kd := (g 17)) (hf := (g 18)) (to := (g 19)) (K := (g 20)) (g16 := (g 21)) (V := (g 22)) (g18 := (g 23)) (g19 := (g 24)) (g20 := (g 25)) (g21 := (g 26)) (g22 := (g 27)) (g23 := (g 28)) R hI.sky hI.so
  obtain ⟨o2, e2, h2⟩ := yw_whenM (x := (zw_a xs i 1)) (y := (zw_a xs i 2)) (n := (f 88)) (mc := (f 83)) (f2 := (f 84)) (f3 := (f 90)) (ni := (f 89)) (m := (g 67)) (mk := (g 76)) (g2 := (g 80)) (mh := (g 78)) (mt := (g 79)) (C := (g 75)) (g6 := (g 81)) (g7 := (g 82)) (g8 := (g 87)) (g9 := (g 88)) (tf := (g 85)) (tt := (g 86)) (g12 := (g 89)) R hI.sky tl
  refine zv_ald (ins := .aload_n 1) (len := 1) hB (by decide +kernel) rfl rfl rfl ?_
  refine zw_arg (j := 1) hB hR i0 i6 hL (by decide +kernel) (by decide) (by decide) rfl ?_
  refine zw_arg (j := 2) hB hR i0 i6 hL (by decide +kernel) (by decide) (by decide) rfl ?_
  refine zv_cv (i := 95) (c := 0) (mm2 := zxm124) (rm2 := (14, 840)) (va := [.inl (zw_a xs i 1), .inl (zw_a xs i 2)]) (S := []) hB (zE_up (by rfl) (by rfl) (by rfl) (by rfl) (by rfl) (zo_X_when e1)) (by decide +kernel) rfl rfl (by decide) (by decide) rfl ?_
  refine zv_pop hB (by decide +kernel) rfl ?_
  refine zv_ald (ins := .aload_n 2) (len := 1) hB (by decide +kernel) rfl rfl rfl ?_
  refine zw_arg (j := 1) hB hR i0 i6 hL (by decide +kernel) (by decide) (by decide) rfl ?_
  refine zw_arg (j := 2) hB hR i0 i6 hL (by decide +kernel) (by decide) (by decide) rfl ?_
  refine zv_cv (i := 98) (c := 1) (mm2 := zxm273) (rm2 := (7, 420)) (va := [.inl (zw_a xs i 1), .inl (zw_a xs i 2)]) (S := []) hB (zE_up (by rfl) (by rfl) (by rfl) (by rfl) (by rfl) (zo_M_when e2)) (by decide +kernel) rfl rfl (by decide) (by decide) rfl ?_
  refine zv_pop hB (by decide +kernel) rfl ?_
  refine zv_goto hB (off := 679) (t := 1593) (by decide +kernel) rfl ?_
  exact zw_tail hB i0 i6 hL (k _ _ ⟨hI.law, zI_sky hI fun j _ _ => h2 j, zI_sea hI fun j _ _ => h2 j, hI.tape, hI.tale, hI.kept, h1, hI.le, hI.ln⟩)
theorem zc_alike {good : Nat → List zNV → List zNV → List zNV → List (Int → Int) → Prop} {Lx : Nat} {xs : Nat → Int32} {i : Int} {f : Nat → Int} {g : Nat → Int → Int} (hL : Lx ≤ 3072) (hB : zw_B good) (hR : zw_R Lx xs good) (i0 : 0 ≤ i) (i6 : i + 6 ≤ Lx) (hI : zI f g) (k : ∀ f2 g2, zI f2 g2 → good 18 (zw_lc (i + 6)) [] (zE_F f2) (zE_G g2)) : good 917 (zw_lc i) [] (zE_F f) (zE_G g) := by
  obtain ⟨L, R⟩ := hI.law
  have tl := zI_tl hI
  obtain ⟨o1, e1, h1⟩ := yw_alikeX (w := (zw_a xs i 1)) (f3 := (f 25)) (f4 := (f 26)) (f5 := (f 27)) (h := (f 1)) (u := (f 28)) (f8 := (f 29)) (t := (f 0)) (sc := (f 3)) (sr := (f 4)) (cl := (f 2)) (tS := (f 30)) (f14 := (f 31)) (nc := (f 32)) (f16 := (f 33)) (sP := (f 34)) (g0 := (g 15)) (g1 := (g 16)) (co := (g 0)) (ro := (g 1)) (br := (g 2)) (kd := (g 17)) (hf := (g 18)) (to := (g 19)) (K := (g 20)) (g9 := (g 21)) (V := (g 22)) (g11 := (g 34)) (g12 := (g 35)) (g13 := (g 36)) (g14 := (g 37)) R hI.sky
  obtain ⟨o2, e2, h2⟩ := yw_alikeM (w := (zw_a xs i 1)) (mc := (f 83)) (m := (g 67)) (mk := (g 76)) (g2 := (g 80)) (mh := (g 78)) (mt := (g 79)) (C := (g 75)) (g6 := (g 81)) (g7 := (g 90)) (g8 := (g 91)) (g9 := (g 92)) R hI.sky
  refine zv_ald (ins := .aload_n 1) (len := 1) hB (by decide +kernel) rfl rfl rfl ?_
  refine zw_arg (j := 1) hB hR i0 i6 hL (by decide +kernel) (by decide) (by decide) rfl ?_
  refine zv_cv (i := 99) (c := 0) (mm2 := zxm126) (rm2 := (6, 360)) (va := [.inl (zw_a xs i 1)]) (S := []) hB (zE_up (by rfl) (by rfl) (by rfl) (by rfl) (by rfl) (zo_X_alike e1)) (by decide +kernel) rfl rfl (by decide) (by decide) rfl ?_
  refine zv_pop hB (by decide +kernel) rfl ?_
  refine zv_ald (ins := .aload_n 2) (len := 1) hB (by decide +kernel) rfl rfl rfl ?_
  refine zw_arg (j := 1) hB hR i0 i6 hL (by decide +kernel) (by decide) (by decide) rfl ?_
  refine zv_cv (i := 102) (c := 1) (mm2 := zxm274) (rm2 := (7, 420)) (va := [.inl (zw_a xs i 1)]) (S := []) hB (zE_up (by rfl) (by rfl) (by rfl) (by rfl) (by rfl) (zo_M_alike e2)) (by decide +kernel) rfl rfl (by decide) (by decide) rfl ?_
  refine zv_pop hB (by decide +kernel) rfl ?_
  refine zv_goto hB (off := 656) (t := 1593) (by decide +kernel) rfl ?_
  exact zw_tail hB i0 i6 hL (k _ _ ⟨hI.law, hI.sky, hI.sea, hI.tape, hI.tale, hI.kept, hI.so, hI.le, hI.ln⟩)
theorem zc_known {good : Nat → List zNV → List zNV → List zNV → List (Int → Int) → Prop} {Lx : Nat} {xs : Nat → Int32} {i : Int} {f : Nat → Int} {g : Nat → Int → Int} (hL : Lx ≤ 3072) (hB : zw_B good) (hR : zw_R Lx xs good) (i0 : 0 ≤ i) (i6 : i + 6 ≤ Lx) (hI : zI f g) (k : ∀ f2 g2, zI f2 g2 → good 18 (zw_lc (i + 6)) [] (zE_F f2) (zE_G g2)) : good 940 (zw_lc i) [] (zE_F f) (zE_G g) := by
  obtain ⟨L, R⟩ := hI.law
  have tl := zI_tl hI
  obtain ⟨o1, e1, h1⟩ := yw_knownX (a := (zw_a xs i 1)) (w := (zw_a xs i 2)) (n := (f 6)) (f4 := (f 25)) (f5 := (f 50)) (f6 := (f 26)) (f7 := (f 27)) (h := (f 1)) (u := (f 28)) (f10 := (f 29)) (t := (f 0)) (sc := (f 3)) (sr := (f 4)) (cl := (f 2)) (tS := (f 30)) (f16 := (f 31)) (nc := (f 32)) (f18 := (f 33)) (sP := (f 34)) (g0 := (g 15)) (g1 := (g 38)) (T := (g 7)) (g3 := (g 16)) (co := (g 0)) (ro := (g 1)) (br := (g 2)) (kd := (g 17)) (hf := (g 18)) (to := (g 19)) (K := (g 20)) (g11 := (g 21)) (V := (g 22)) (g13 := (g 36)) R hI.sky hI.tape.2.1 hI.tape.2.2.1
  obtain ⟨o2, e2, h2⟩ := yw_knownM (a := (zw_a xs i 1)) (w := (zw_a xs i 2)) (n := (f 74)) (mc := (f 83)) (M := (g 68)) (g1 := (g 93)) (m := (g 67)) (mk := (g 76)) (g4 := (g 80)) (mh := (g 78)) (mt := (g 79)) (C := (g 75)) (g8 := (g 81)) (g9 := (g 90)) (g10 := (g 91)) (g11 := (g 92)) R hI.sky (by rw [hI.tape.1]; exact hI.tape.2.1) (by rw [hI.tape.1]; exact hI.tape.2.2.1)
  refine zv_ald (ins := .aload_n 1) (len := 1) hB (by decide +kernel) rfl rfl rfl ?_
  refine zw_arg (j := 1) hB hR i0 i6 hL (by decide +kernel) (by decide) (by decide) rfl ?_
  refine zw_arg (j := 2) hB hR i0 i6 hL (by decide +kernel) (by decide) (by decide) rfl ?_
  refine zv_cv (i := 103) (c := 0) (mm2 := zxm136) (rm2 := (5, 300)) (va := [.inl (zw_a xs i 1), .inl (zw_a xs i 2)]) (S := []) hB (zE_up (by rfl) (by rfl) (by rfl) (by rfl) (by rfl) (zo_X_known e1)) (by decide +kernel) rfl rfl (by decide) (by decide) rfl ?_
  refine zv_pop hB (by decide +kernel) rfl ?_
  refine zv_ald (ins := .aload_n 2) (len := 1) hB (by decide +kernel) rfl rfl rfl ?_
  refine zw_arg (j := 1) hB hR i0 i6 hL (by decide +kernel) (by decide) (by decide) rfl ?_
  refine zw_arg (j := 2) hB hR i0 i6 hL (by decide +kernel) (by decide) (by decide) rfl ?_
  refine zv_cv (i := 106) (c := 1) (mm2 := zxm281) (rm2 := (7, 420)) (va := [.inl (zw_a xs i 1), .inl (zw_a xs i 2)]) (S := []) hB (zE_up (by rfl) (by rfl) (by rfl) (by rfl) (by rfl) (zo_M_known e2)) (by decide +kernel) rfl rfl (by decide) (by decide) rfl ?_
  refine zv_pop hB (by decide +kernel) rfl ?_
  refine zv_goto hB (off := 623) (t := 1593) (by decide +kernel) rfl ?_
  exact zw_tail hB i0 i6 hL (k _ _ ⟨hI.law, hI.sky, hI.sea, zI_size hI h1 (h2.trans (by rw [hI.tape.1])) (by split; exact .inl rfl; split; exact .inl rfl; split; exact .inl rfl; exact .inr rfl), hI.tale, hI.kept, hI.so, hI.le, hI.ln⟩)
theorem zc_named {good : Nat → List zNV → List zNV → List zNV → List (Int → Int) → Prop} {Lx : Nat} {xs : Nat → Int32} {i : Int} {f : Nat → Int} {g : Nat → Int → Int} (hL : Lx ≤ 3072) (hB : zw_B good) (hR : zw_R Lx xs good) (i0 : 0 ≤ i) (i6 : i + 6 ≤ Lx) (hI : zI f g) (k : ∀ f2 g2, zI f2 g2 → good 18 (zw_lc (i + 6)) [] (zE_F f2) (zE_G g2)) : good 973 (zw_lc i) [] (zE_F f) (zE_G g) := by
  obtain ⟨L, R⟩ := hI.law
  have tl := zI_tl hI
  obtain ⟨o1, e1, h1⟩ := yw_namedX (a := (zw_a xs i 1)) (w := (zw_a xs i 2)) (n := (f 6)) (f4 := (f 25)) (f5 := (f 26)) (f6 := (f 27)) (h := (f 1)) (u := (f 28)) (f9 := (f 29)) (t := (f 0)) (sc := (f 3)) (sr := (f 4)) (cl := (f 2)) (tS := (f 30)) (f15 := (f 31)) (nc := (f 32)) (f17 := (f 33)) (sP := (f 34)) (g0 := (g 15)) (T := (g 7)) (g2 := (g 16)) (co := (g 0)) (ro := (g 1)) (br := (g 2)) (kd := (g 17)) (hf := (g 18)) (to := (g 19)) (K := (g 20)) (g10 := (g 21)) (V := (g 22)) (g12 := (g 39)) (g13 := (g 40)) (g14 := (g 41)) R hI.sky hI.tape.2.2.2
  obtain ⟨o2, e2, h2⟩ := yw_namedM (a := (zw_a xs i 1)) (w := (zw_a xs i 2)) (n := (f 74)) (f1 := (f 91)) (mc := (f 83)) (M := (g 68)) (g1 := (g 94)) (g2 := (g 95)) (m := (g 67)) (mk := (g 76)) (g5 := (g 80)) (mh := (g 78)) (mt := (g 79)) (C := (g 75)) (g9 := (g 81)) R hI.sky hI.tape.2.2.2
  refine zv_ald (ins := .aload_n 1) (len := 1) hB (by decide +kernel) rfl rfl rfl ?_
  refine zw_arg (j := 1) hB hR i0 i6 hL (by decide +kernel) (by decide) (by decide) rfl ?_
  refine zw_arg (j := 2) hB hR i0 i6 hL (by decide +kernel) (by decide) (by decide) rfl ?_
  refine zv_cv (i := 107) (c := 0) (mm2 := zxm140) (rm2 := (11, 660)) (va := [.inl (zw_a xs i 1), .inl (zw_a xs i 2)]) (S := []) hB (zE_up (by rfl) (by rfl) (by rfl) (by rfl) (by rfl) (zo_X_named e1)) (by decide +kernel) rfl rfl (by decide) (by decide) rfl ?_
  refine zv_pop hB (by decide +kernel) rfl ?_
  refine zv_ald (ins := .aload_n 2) (len := 1) hB (by decide +kernel) rfl rfl rfl ?_
  refine zw_arg (j := 1) hB hR i0 i6 hL (by decide +kernel) (by decide) (by decide) rfl ?_
  refine zw_arg (j := 2) hB hR i0 i6 hL (by decide +kernel) (by decide) (by decide) rfl ?_
  refine zv_cv (i := 110) (c := 1) (mm2 := zxm283) (rm2 := (5, 300)) (va := [.inl (zw_a xs i 1), .inl (zw_a xs i 2)]) (S := []) hB (zE_up (by rfl) (by rfl) (by rfl) (by rfl) (by rfl) (zo_M_named e2)) (by decide +kernel) rfl rfl (by decide) (by decide) rfl ?_
  refine zv_pop hB (by decide +kernel) rfl ?_
  refine zv_goto hB (off := 590) (t := 1593) (by decide +kernel) rfl ?_
  exact zw_tail hB i0 i6 hL (k _ _ ⟨hI.law, hI.sky, hI.sea, zI_size hI h1 (h2.trans (by rw [hI.tape.1])) (by split; exact .inl rfl; split; exact .inl rfl; split; exact .inl rfl; exact .inr rfl), hI.tale, hI.kept, hI.so, hI.le, hI.ln⟩)
end
section
/-! The calls of the law, case by case. -/
theorem zc_sold {good : Nat → List zNV → List zNV → List zNV → List (Int → Int) → Prop} {Lx : Nat} {xs : Nat → Int32} {i : Int} {f : Nat → Int} {g : Nat → Int → Int} (hL : Lx ≤ 3072) (hB : zw_B good) (hR : zw_R Lx xs good) (i0 : 0 ≤ i) (i6 : i + 6 ≤ Lx) (hI : zI f g) (k : ∀ f2 g2, zI f2 g2 → good 18 (zw_lc (i + 6)) [] (zE_F f2) (zE_G g2)) : good 1006 (zw_lc i) [] (zE_F f) (zE_G g) := by
  obtain ⟨L, R⟩ := hI.law
  have tl := zI_tl hI
  obtain ⟨v0, v1, v2, v3, v4, v5, v6, v7, v8, v9, v10, v11, v12, e1, e2⟩ := yo_sold (a := (zw_a xs i 1)) (b := (zw_a xs i 2)) (h := (f 1)) (u := (f 28)) (t := (f 0)) (nc := (f 32)) (f5 := (f 33)) (g0 := (g 16)) (g1 := (g 42)) (g2 := (g 43)) (br := (g 2)) (ro := (g 1)) (co := (g 0)) (kd := (g 17)) (hf := (g 18)) (to := (g 19)) (K := (g 20)) (g10 := (g 21)) (V := (g 22)) (fr := (g 44)) (g13 := (g 45)) (g14 := (g 46)) (mc := (f 83)) (q0 := (g 80)) (m := (g 67)) (q2 := (g 96)) (q3 := (g 97)) (mk := (g 76)) (mh := (g 78)) (mt := (g 79)) (C := (g 75)) (q8 := (g 81)) (mf := (g 77)) (q10 := (g 98)) R hI.sky
  refine zv_ald (ins := .aload_n 1) (len := 1) hB (by decide +kernel) rfl rfl rfl ?_
  refine zw_arg (j := 1) hB hR i0 i6 hL (by decide +kernel) (by decide) (by decide) rfl ?_
  refine zw_arg (j := 2) hB hR i0 i6 hL (by decide +kernel) (by decide) (by decide) rfl ?_
  refine zv_cv (i := 111) (c := 0) (mm2 := zxm144) (rm2 := (4, 240)) (va := [.inl (zw_a xs i 1), .inl (zw_a xs i 2)]) (S := []) hB (zE_up (by rfl) (by rfl) (by rfl) (by rfl) (by rfl) (zo_X_sold e1)) (by decide +kernel) rfl rfl (by decide) (by decide) rfl ?_
  refine zv_pop hB (by decide +kernel) rfl ?_
  refine zv_ald (ins := .aload_n 2) (len := 1) hB (by decide +kernel) rfl rfl rfl ?_
  refine zw_arg (j := 1) hB hR i0 i6 hL (by decide +kernel) (by decide) (by decide) rfl ?_
  refine zw_arg (j := 2) hB hR i0 i6 hL (by decide +kernel) (by decide) (by decide) rfl ?_
  refine zv_cv (i := 114) (c := 1) (mm2 := zxm287) (rm2 := (3, 180)) (va := [.inl (zw_a xs i 1), .inl (zw_a xs i 2)]) (S := []) hB (zE_up (by rfl) (by rfl) (by rfl) (by rfl) (by rfl) (zo_M_sold e2)) (by decide +kernel) rfl rfl (by decide) (by decide) rfl ?_
  refine zv_pop hB (by decide +kernel) rfl ?_
  refine zv_goto hB (off := 557) (t := 1593) (by decide +kernel) rfl ?_
  exact zw_tail hB i0 i6 hL (k _ _ ⟨hI.law, hI.sky, hI.sea, hI.tape, hI.tale, hI.kept, hI.so, hI.le, hI.ln⟩)
theorem zc_steered {good : Nat → List zNV → List zNV → List zNV → List (Int → Int) → Prop} {Lx : Nat} {xs : Nat → Int32} {i : Int} {f : Nat → Int} {g : Nat → Int → Int} (hL : Lx ≤ 3072) (hB : zw_B good) (hR : zw_R Lx xs good) (i0 : 0 ≤ i) (i6 : i + 6 ≤ Lx) (hI : zI f g) (k : ∀ f2 g2, zI f2 g2 → good 18 (zw_lc (i + 6)) [] (zE_F f2) (zE_G g2)) : good 1039 (zw_lc i) [] (zE_F f) (zE_G g) := by
  obtain ⟨L, R⟩ := hI.law
  have tl := zI_tl hI
  obtain ⟨v0, v1, v2, v3, v4, v5, v6, v7, v8, v9, v10, v11, v12, v13, v14, v15, v16, v17, v18, e1, e2, k', z'⟩ := yo_steered (s := (zw_a xs i 1)) (i := (zw_a xs i 2)) (N := (zw_a xs i 3)) (dr := (if zw_a xs i 4 = 0 then 0 else 1)) (ts := (f 5)) (t := (f 0)) (f5 := (f 25)) (f6 := (f 26)) (f7 := (f 27)) (h := (f 1)) (u := (f 28)) (sc := (f 3)) (sr := (f 4)) (cl := (f 2)) (tS := (f 30)) (f14 := (f 31)) (nc := (f 32)) (f16 := (f 33)) (sP := (f 34)) (ch := (f 48)) (gp := (g 5)) (g1 := (g 15)) (g2 := (g 16)) (co := (g 0)) (ro := (g 1)) (br := (g 2)) (kd := (g 17)) (hf := (g 18)) (to := (g 19)) (K := (g 20)) (g10 := (g 21)) (V := (g 22)) (gl := (g 6)) (wc := (g 3)) (wr := (g 4)) (fr := (g 44)) (mc := (f 83)) (m := (g 67)) (mk := (g 76)) (S2 := (g 80)) (mh := (g 78)) (mt := (g 79)) (C := (g 75)) (mS := (g 81)) (mf := (g 77)) (f8 := 0) (f9 := 0) R hI.sky hI.sea
  refine zv_ald (ins := .aload_n 1) (len := 1) hB (by decide +kernel) rfl rfl rfl ?_
  refine zw_arg (j := 1) hB hR i0 i6 hL (by decide +kernel) (by decide) (by decide) rfl ?_
  refine zw_arg (j := 2) hB hR i0 i6 hL (by decide +kernel) (by decide) (by decide) rfl ?_
  refine zw_arg (j := 3) hB hR i0 i6 hL (by decide +kernel) (by decide) (by decide) rfl ?_
  refine zw_arg (j := 4) hB hR i0 i6 hL (by decide +kernel) (by decide) (by decide) rfl ?_
  refine zw_bool (pc := 1060) hB (by decide +kernel) (by decide +kernel) (by decide +kernel) (by decide +kernel) rfl rfl ?_
  refine zv_cv (i := 115) (c := 0) (mm2 := zxm151) (rm2 := (5, 300)) (va := [.inl (zw_a xs i 1), .inl (zw_a xs i 2), .inl (zw_a xs i 3), .inl (if zw_a xs i 4 = 0 then 0 else 1)]) (S := []) hB (zE_up (by rfl) (by rfl) (by rfl) (by rfl) (by rfl) (zo_X_steered e1)) (by decide +kernel) rfl rfl (by decide) (by decide) rfl ?_
  refine zv_pop hB (by decide +kernel) rfl ?_
  refine zv_ald (ins := .aload_n 2) (len := 1) hB (by decide +kernel) rfl rfl rfl ?_
  refine zw_arg (j := 1) hB hR i0 i6 hL (by decide +kernel) (by decide) (by decide) rfl ?_
  refine zw_arg (j := 2) hB hR i0 i6 hL (by decide +kernel) (by decide) (by decide) rfl ?_
  refine zw_arg (j := 3) hB hR i0 i6 hL (by decide +kernel) (by decide) (by decide) rfl ?_
  refine zw_arg (j := 4) hB hR i0 i6 hL (by decide +kernel) (by decide) (by decide) rfl ?_
  refine zw_bool (pc := 1093) hB (by decide +kernel) (by decide +kernel) (by decide +kernel) (by decide +kernel) rfl rfl ?_
  refine zv_cv (i := 119) (c := 1) (mm2 := zxm289) (rm2 := (6, 360)) (va := [.inl (zw_a xs i 1), .inl (zw_a xs i 2), .inl (zw_a xs i 3), .inl (if zw_a xs i 4 = 0 then 0 else 1)]) (S := []) hB (zE_up (by rfl) (by rfl) (by rfl) (by rfl) (by rfl) (zo_M_steered e2)) (by decide +kernel) rfl rfl (by decide) (by decide) rfl ?_
  refine zv_pop hB (by decide +kernel) rfl ?_
  refine zv_goto hB (off := 488) (t := 1593) (by decide +kernel) rfl ?_
  exact zw_tail hB i0 i6 hL (k _ _ ⟨hI.law, k', z', hI.tape, hI.tale, hI.kept, hI.so, hI.le, hI.ln⟩)
theorem zc_hours {good : Nat → List zNV → List zNV → List zNV → List (Int → Int) → Prop} {Lx : Nat} {xs : Nat → Int32} {i : Int} {f : Nat → Int} {g : Nat → Int → Int} (hL : Lx ≤ 3072) (hB : zw_B good) (hR : zw_R Lx xs good) (i0 : 0 ≤ i) (i6 : i + 6 ≤ Lx) (hI : zI f g) (k : ∀ f2 g2, zI f2 g2 → good 18 (zw_lc (i + 6)) [] (zE_F f2) (zE_G g2)) : good 1108 (zw_lc i) [] (zE_F f) (zE_G g) := by
  obtain ⟨L, R⟩ := hI.law
  have tl := zI_tl hI
  obtain ⟨v0, v1, v2, v3, v4, v5, e1, e2, k', fr⟩ := yo_hours (N := (zw_a xs i 1)) (h := (f 1)) (u := (f 28)) (co := (g 0)) (wc := (g 3)) (ro := (g 1)) (wr := (g 4)) (m := (g 67)) hI.sky
  refine zv_ald (ins := .aload_n 1) (len := 1) hB (by decide +kernel) rfl rfl rfl ?_
  refine zw_arg (j := 1) hB hR i0 i6 hL (by decide +kernel) (by decide) (by decide) rfl ?_
  refine zv_cv (i := 120) (c := 0) (mm2 := zxm159) (rm2 := (4, 240)) (va := [.inl (zw_a xs i 1)]) (S := []) hB (zE_up (by rfl) (by rfl) (by rfl) (by rfl) (by rfl) (zo_X_hours e1)) (by decide +kernel) rfl rfl (by decide) (by decide) rfl ?_
  refine zv_pop hB (by decide +kernel) rfl ?_
  refine zv_ald (ins := .aload_n 2) (len := 1) hB (by decide +kernel) rfl rfl rfl ?_
  refine zw_arg (j := 1) hB hR i0 i6 hL (by decide +kernel) (by decide) (by decide) rfl ?_
  refine zv_cv (i := 123) (c := 1) (mm2 := zxm297) (rm2 := (4, 240)) (va := [.inl (zw_a xs i 1)]) (S := []) hB (zE_up (by rfl) (by rfl) (by rfl) (by rfl) (by rfl) (zo_M_hours e2)) (by decide +kernel) rfl rfl (by decide) (by decide) rfl ?_
  refine zv_pop hB (by decide +kernel) rfl ?_
  refine zv_goto hB (off := 465) (t := 1593) (by decide +kernel) rfl ?_
  exact zw_tail hB i0 i6 hL (k _ _ ⟨hI.law, k', yk_sea_fr hI.sea fun j hj => fr j (by omega) (by omega) (by omega), hI.tape, hI.tale, hI.kept, hI.so, hI.le, hI.ln⟩)
theorem zc_found {good : Nat → List zNV → List zNV → List zNV → List (Int → Int) → Prop} {Lx : Nat} {xs : Nat → Int32} {i : Int} {f : Nat → Int} {g : Nat → Int → Int} (hL : Lx ≤ 3072) (hB : zw_B good) (hR : zw_R Lx xs good) (i0 : 0 ≤ i) (i6 : i + 6 ≤ Lx) (hI : zI f g) (k : ∀ f2 g2, zI f2 g2 → good 18 (zw_lc (i + 6)) [] (zE_F f2) (zE_G g2)) : good 1131 (zw_lc i) [] (zE_F f) (zE_G g) := by
  obtain ⟨L, R⟩ := hI.law
  have tl := zI_tl hI
  obtain ⟨v0, v1, v2, v3, v4, e1, e2, p', fr⟩ := yo_found (t := (f 0)) (n := (f 6)) (T := (g 7)) (co := (g 0)) (wc := (g 3)) (ro := (g 1)) (wr := (g 4)) (n2 := (f 74)) (m := (g 67)) (mA := (g 99)) (M := (g 68)) hI.sky hI.tape
  refine zv_ald (ins := .aload_n 1) (len := 1) hB (by decide +kernel) rfl rfl rfl ?_
  refine zv_cv (i := 124) (c := 0) (mm2 := zxm160) (rm2 := (2, 120)) (va := []) (S := []) hB (zE_up (by rfl) (by rfl) (by rfl) (by rfl) (by rfl) (zo_X_found e1)) (by decide +kernel) rfl rfl (by decide) (by decide) rfl ?_
  refine zv_pop hB (by decide +kernel) rfl ?_
  refine zv_ald (ins := .aload_n 2) (len := 1) hB (by decide +kernel) rfl rfl rfl ?_
  refine zv_cv (i := 128) (c := 1) (mm2 := zxm298) (rm2 := (3, 180)) (va := []) (S := []) hB (zE_up (by rfl) (by rfl) (by rfl) (by rfl) (by rfl) (zo_M_found e2)) (by decide +kernel) rfl rfl (by decide) (by decide) rfl ?_
  refine zv_pop hB (by decide +kernel) rfl ?_
  refine zv_goto hB (off := 452) (t := 1593) (by decide +kernel) rfl ?_
  exact zw_tail hB i0 i6 hL (k _ _ ⟨hI.law, zI_sky hI fr, zI_sea hI fr, p', hI.tale, hI.kept, hI.so, hI.le, hI.ln⟩)
theorem zc_meeting {good : Nat → List zNV → List zNV → List zNV → List (Int → Int) → Prop} {Lx : Nat} {xs : Nat → Int32} {i : Int} {f : Nat → Int} {g : Nat → Int → Int} (hL : Lx ≤ 3072) (hB : zw_B good) (hR : zw_R Lx xs good) (i0 : 0 ≤ i) (i6 : i + 6 ≤ Lx) (hI : zI f g) (k : ∀ f2 g2, zI f2 g2 → good 18 (zw_lc (i + 6)) [] (zE_F f2) (zE_G g2)) : good 1144 (zw_lc i) [] (zE_F f) (zE_G g) := by
  obtain ⟨L, R⟩ := hI.law
  have tl := zI_tl hI
  obtain ⟨v0, v1, v2, v3, v4, v5, v6, e1, e2⟩ := yo_meeting (a := (zw_a xs i 1)) (b := (zw_a xs i 2)) (w := (zw_a xs i 3)) (ts := (f 5)) (gp := (g 5)) (h1 := (g 47)) (q1 := (g 48)) (gl := (g 6)) (h3 := (g 49)) (m := (g 67)) (fA := (g 100)) (q2 := (g 101)) (fB := (g 102)) hI.sea
  refine zv_ald (ins := .aload_n 1) (len := 1) hB (by decide +kernel) rfl rfl rfl ?_
  refine zw_arg (j := 1) hB hR i0 i6 hL (by decide +kernel) (by decide) (by decide) rfl ?_
  refine zw_arg (j := 2) hB hR i0 i6 hL (by decide +kernel) (by decide) (by decide) rfl ?_
  refine zw_arg (j := 3) hB hR i0 i6 hL (by decide +kernel) (by decide) (by decide) rfl ?_
  refine zv_cv (i := 129) (c := 0) (mm2 := zxm161) (rm2 := (5, 300)) (va := [.inl (zw_a xs i 1), .inl (zw_a xs i 2), .inl (zw_a xs i 3)]) (S := []) hB (zE_up (by rfl) (by rfl) (by rfl) (by rfl) (by rfl) (zo_X_meeting e1)) (by decide +kernel) rfl rfl (by decide) (by decide) rfl ?_
  refine zv_pop hB (by decide +kernel) rfl ?_
  refine zv_ald (ins := .aload_n 2) (len := 1) hB (by decide +kernel) rfl rfl rfl ?_
  refine zw_arg (j := 1) hB hR i0 i6 hL (by decide +kernel) (by decide) (by decide) rfl ?_
  refine zw_arg (j := 2) hB hR i0 i6 hL (by decide +kernel) (by decide) (by decide) rfl ?_
  refine zw_arg (j := 3) hB hR i0 i6 hL (by decide +kernel) (by decide) (by decide) rfl ?_
  refine zv_cv (i := 132) (c := 1) (mm2 := zxm302) (rm2 := (2, 120)) (va := [.inl (zw_a xs i 1), .inl (zw_a xs i 2), .inl (zw_a xs i 3)]) (S := []) hB (zE_up (by rfl) (by rfl) (by rfl) (by rfl) (by rfl) (zo_M_meeting e2)) (by decide +kernel) rfl rfl (by decide) (by decide) rfl ?_
  refine zv_pop hB (by decide +kernel) rfl ?_
  refine zv_goto hB (off := 409) (t := 1593) (by decide +kernel) rfl ?_
  exact zw_tail hB i0 i6 hL (k _ _ ⟨hI.law, hI.sky, hI.sea, hI.tape, hI.tale, hI.kept, hI.so, hI.le, hI.ln⟩)
theorem zc_fastest {good : Nat → List zNV → List zNV → List zNV → List (Int → Int) → Prop} {Lx : Nat} {xs : Nat → Int32} {i : Int} {f : Nat → Int} {g : Nat → Int → Int} (hL : Lx ≤ 3072) (hB : zw_B good) (hR : zw_R Lx xs good) (i0 : 0 ≤ i) (i6 : i + 6 ≤ Lx) (hI : zI f g) (k : ∀ f2 g2, zI f2 g2 → good 18 (zw_lc (i + 6)) [] (zE_F f2) (zE_G g2)) : good 1187 (zw_lc i) [] (zE_F f) (zE_G g) := by
  obtain ⟨L, R⟩ := hI.law
  have tl := zI_tl hI
  obtain ⟨o1, o2, e1, e2, hr, h2⟩ := yo_fastest (s := (zw_a xs i 1)) (x := (zw_a xs i 2)) (y := (zw_a xs i 3)) (n := (zw_a xs i 4)) (w := (zw_a xs i 5)) (ts := (f 5)) (t := (f 0)) (f2 := (f 42)) (h := (f 1)) (f4 := (f 43)) (u := (f 28)) (f6 := (f 44)) (cl := (f 2)) (f8 := (f 45)) (sc := (f 3)) (f10 := (f 46)) (sr := (f 4)) (f12 := (f 47)) (ch := (f 48)) (f14 := (f 49)) (f18 := (f 25)) (f19 := (f 26)) (f20 := (f 27)) (tS := (f 30)) (f22 := (f 31)) (nc := (f 32)) (f24 := (f 33)) (sP := (f 34)) (f26 := (f 51)) (f27 := (f 52)) (co := (g 0)) (g1 := (g 29)) (ro := (g 1)) (g3 := (g 30)) (br := (g 2)) (g5 := (g 31)) (wc := (g 3)) (g7 := (g 32)) (wr := (g 4)) (g9 := (g 33)) (g10 := (g 15)) (gp := (g 5)) (g12 := (g 50)) (g13 := (g 16)) (kd := (g 17)) (hf := (g 18)) (to := (g 19)) (K := (g 20)) (g18 := (g 21)) (V := (g 22)) (gl := (g 6)) (mc := (f 83)) (m := (g 67)) (aA := (g 99)) (mk := (g 76)) (g := (g 80)) (mh := (g 78)) (mt := (g 79)) (C := (g 75)) (S := (g 81)) (mf := (g 77)) R hI.sky hI.sea
  refine zv_ald (ins := .aload_n 1) (len := 1) hB (by decide +kernel) rfl rfl rfl ?_
  refine zw_arg (j := 1) hB hR i0 i6 hL (by decide +kernel) (by decide) (by decide) rfl ?_
  refine zw_arg (j := 2) hB hR i0 i6 hL (by decide +kernel) (by decide) (by decide) rfl ?_
  refine zw_arg (j := 3) hB hR i0 i6 hL (by decide +kernel) (by decide) (by decide) rfl ?_
  refine zw_arg (j := 4) hB hR i0 i6 hL (by decide +kernel) (by decide) (by decide) rfl ?_
  refine zw_arg (j := 5) hB hR i0 i6 hL (by decide +kernel) (by decide) (by decide) rfl ?_
  refine zv_cv (i := 133) (c := 0) (mm2 := zxm165) (rm2 := (7, 420)) (va := [.inl (zw_a xs i 1), .inl (zw_a xs i 2), .inl (zw_a xs i 3), .inl (zw_a xs i 4), .inl (zw_a xs i 5)]) (S := []) hB (zE_up (by rfl) (by rfl) (by rfl) (by rfl) (by rfl) (zo_X_fastest e1)) (by decide +kernel) rfl rfl (by decide) (by decide) rfl ?_
  refine zv_pop hB (by decide +kernel) rfl ?_
  refine zv_ald (ins := .aload_n 2) (len := 1) hB (by decide +kernel) rfl rfl rfl ?_
  refine zw_arg (j := 1) hB hR i0 i6 hL (by decide +kernel) (by decide) (by decide) rfl ?_
  refine zw_arg (j := 2) hB hR i0 i6 hL (by decide +kernel) (by decide) (by decide) rfl ?_
  refine zw_arg (j := 3) hB hR i0 i6 hL (by decide +kernel) (by decide) (by decide) rfl ?_
  refine zw_arg (j := 4) hB hR i0 i6 hL (by decide +kernel) (by decide) (by decide) rfl ?_
  refine zw_arg (j := 5) hB hR i0 i6 hL (by decide +kernel) (by decide) (by decide) rfl ?_
  refine zv_cv (i := 136) (c := 1) (mm2 := zxm305) (rm2 := (7, 420)) (va := [.inl (zw_a xs i 1), .inl (zw_a xs i 2), .inl (zw_a xs i 3), .inl (zw_a xs i 4), .inl (zw_a xs i 5)]) (S := []) hB (zE_up (by rfl) (by rfl) (by rfl) (by rfl) (by rfl) (zo_M_fastest e2)) (by decide +kernel) rfl rfl (by decide) (by decide) rfl ?_
  refine zv_pop hB (by decide +kernel) rfl ?_
  refine zv_goto hB (off := 346) (t := 1593) (by decide +kernel) rfl ?_
  exact zw_tail hB i0 i6 hL (k _ _ ⟨hI.law, zI_sky hI h2, zI_sea hI h2, hI.tape, hI.tale, hI.kept, hI.so, hI.le, hI.ln⟩)
theorem zc_byTwo {good : Nat → List zNV → List zNV → List zNV → List (Int → Int) → Prop} {Lx : Nat} {xs : Nat → Int32} {i : Int} {f : Nat → Int} {g : Nat → Int → Int} (hL : Lx ≤ 3072) (hB : zw_B good) (hR : zw_R Lx xs good) (i0 : 0 ≤ i) (i6 : i + 6 ≤ Lx) (hI : zI f g) (k : ∀ f2 g2, zI f2 g2 → good 18 (zw_lc (i + 6)) [] (zE_F f2) (zE_G g2)) : good 1250 (zw_lc i) [] (zE_F f) (zE_G g) := by
  obtain ⟨L, R⟩ := hI.law
  have tl := zI_tl hI
  obtain ⟨o1, e1, h1⟩ := yw_byTwoX (s := (zw_a xs i 1)) (x := (zw_a xs i 2)) (y := (zw_a xs i 3)) (n := (zw_a xs i 4)) (w := (zw_a xs i 5)) (ts := (f 5)) (t := (f 0)) (f2 := (f 42)) (h := (f 1)) (f4 := (f 43)) (u := (f 28)) (f6 := (f 44)) (cl := (f 2)) (f8 := (f 45)) (sc := (f 3)) (f10 := (f 46)) (sr := (f 4)) (f12 := (f 47)) (ch := (f 48)) (f14 := (f 49)) (f18 := (f 25)) (f19 := (f 53)) (f20 := (f 26)) (f21 := (f 27)) (tS := (f 30)) (f23 := (f 31)) (nc := (f 32)) (f25 := (f 33)) (sP := (f 34)) (f27 := (f 54)) (f28 := (f 51)) (f29 := (f 52)) (f30 := (f 55)) (f31 := (f 56)) (co := (g 0)) (g1 := (g 29)) (ro := (g 1)) (g3 := (g 30)) (br := (g 2)) (g5 := (g 31)) (wc := (g 3)) (g7 := (g 32)) (wr := (g 4)) (g9 := (g 33)) (g10 := (g 15)) (gp := (g 5)) (g12 := (g 50)) (g13 := (g 16)) (kd := (g 17)) (hf := (g 18)) (to := (g 19)) (K := (g 20)) (g18 := (g 21)) (V := (g 22)) (gl := (g 6)) (g21 := (g 51)) (g22 := (g 52)) (g23 := (g 53)) (g24 := (g 54)) (g25 := (g 55)) R hI.sky hI.sea hI.le hI.ln
  obtain ⟨o2, e2, h2⟩ := yw_byTwoM (s := (zw_a xs i 1)) (x := (zw_a xs i 2)) (y := (zw_a xs i 3)) (n := (zw_a xs i 4)) (w := (zw_a xs i 5)) (mc := (f 83)) (f1 := (f 92)) (f2 := (f 93)) (f3 := (f 94)) (f4 := (f 95)) (m := (g 67)) (aA := (g 99)) (mk := (g 76)) (g := (g 80)) (mh := (g 78)) (mt := (g 79)) (C := (g 75)) (S := (g 81)) (mf := (g 77)) R hI.sky hI.sea
  refine zv_ald (ins := .aload_n 1) (len := 1) hB (by decide +kernel) rfl rfl rfl ?_
  refine zw_arg (j := 1) hB hR i0 i6 hL (by decide +kernel) (by decide) (by decide) rfl ?_
  refine zw_arg (j := 2) hB hR i0 i6 hL (by decide +kernel) (by decide) (by decide) rfl ?_
  refine zw_arg (j := 3) hB hR i0 i6 hL (by decide +kernel) (by decide) (by decide) rfl ?_
  refine zw_arg (j := 4) hB hR i0 i6 hL (by decide +kernel) (by decide) (by decide) rfl ?_
  refine zw_arg (j := 5) hB hR i0 i6 hL (by decide +kernel) (by decide) (by decide) rfl ?_
  refine zv_cv (i := 137) (c := 0) (mm2 := zxm170) (rm2 := (7, 420)) (va := [.inl (zw_a xs i 1), .inl (zw_a xs i 2), .inl (zw_a xs i 3), .inl (zw_a xs i 4), .inl (zw_a xs i 5)]) (S := []) hB (zE_up (by rfl) (by rfl) (by rfl) (by rfl) (by rfl) (zo_X_byTwo e1)) (by decide +kernel) rfl rfl (by decide) (by decide) rfl ?_
  refine zv_pop hB (by decide +kernel) rfl ?_
  refine zv_ald (ins := .aload_n 2) (len := 1) hB (by decide +kernel) rfl rfl rfl ?_
  refine zw_arg (j := 1) hB hR i0 i6 hL (by decide +kernel) (by decide) (by decide) rfl ?_
  refine zw_arg (j := 2) hB hR i0 i6 hL (by decide +kernel) (by decide) (by decide) rfl ?_
  refine zw_arg (j := 3) hB hR i0 i6 hL (by decide +kernel) (by decide) (by decide) rfl ?_
  refine zw_arg (j := 4) hB hR i0 i6 hL (by decide +kernel) (by decide) (by decide) rfl ?_
  refine zw_arg (j := 5) hB hR i0 i6 hL (by decide +kernel) (by decide) (by decide) rfl ?_
  refine zv_cv (i := 140) (c := 1) (mm2 := zxm307) (rm2 := (8, 480)) (va := [.inl (zw_a xs i 1), .inl (zw_a xs i 2), .inl (zw_a xs i 3), .inl (zw_a xs i 4), .inl (zw_a xs i 5)]) (S := []) hB (zE_up (by rfl) (by rfl) (by rfl) (by rfl) (by rfl) (zo_M_byTwo e2)) (by decide +kernel) rfl rfl (by decide) (by decide) rfl ?_
  refine zv_pop hB (by decide +kernel) rfl ?_
  refine zv_goto hB (off := 283) (t := 1593) (by decide +kernel) rfl ?_
  exact zw_tail hB i0 i6 hL (k _ _ ⟨hI.law, zI_sky hI h2, zI_sea hI h2, hI.tape, hI.tale, hI.kept, hI.so, h1.1, h1.2⟩)
theorem zc_both {good : Nat → List zNV → List zNV → List zNV → List (Int → Int) → Prop} {Lx : Nat} {xs : Nat → Int32} {i : Int} {f : Nat → Int} {g : Nat → Int → Int} (hL : Lx ≤ 3072) (hB : zw_B good) (hR : zw_R Lx xs good) (i0 : 0 ≤ i) (i6 : i + 6 ≤ Lx) (hI : zI f g) (k : ∀ f2 g2, zI f2 g2 → good 18 (zw_lc (i + 6)) [] (zE_F f2) (zE_G g2)) : good 1313 (zw_lc i) [] (zE_F f) (zE_G g) := by
  obtain ⟨L, R⟩ := hI.law
  have tl := zI_tl hI
  obtain ⟨o1, e1, h1⟩ := yw_bothX (x := (zw_a xs i 1)) (y := (zw_a xs i 2)) (w := (zw_a xs i 3)) (f3 := (f 25)) (f4 := (f 26)) (f5 := (f 27)) (h := (f 1)) (u := (f 28)) (f8 := (f 29)) (t := (f 0)) (sc := (f 3)) (sr := (f 4)) (cl := (f 2)) (tS := (f 30)) (f14 := (f 31)) (nc := (f 32)) (f16 := (f 33)) (sP := (f 34)) (tL := (f 35)) (lP := (f 36)) (f22 := (f 59)) (f23 := (f 60)) (f24 := (f 61)) (f25 := (f 62)) (f26 := (f 63)) (n := (f 37)) (f31 := (f 41)) (f32 := (f 38)) (g0 := (g 15)) (g1 := (g 16)) (co := (g 0)) (ro := (g 1)) (br := (g 2)) (kd := (g 17)) (hf := (g 18)) (to := (g 19)) (K := (g 20)) (g9 := (g 21)) (V := (g 22)) (g11 := (g 23)) (g12 := (g 24)) (g13 := (g 56)) (g14 := (g 57)) (g15 := (g 58)) (g16 := (g 25)) (g17 := (g 26)) (g18 := (g 27)) (g19 := (g 28)) R hI.sky hI.so
  obtain ⟨o2, e2, h2⟩ := yw_bothM (x := (zw_a xs i 1)) (y := (zw_a xs i 2)) (w := (zw_a xs i 3)) (mc := (f 83)) (f1 := (f 84)) (n := (f 88)) (f3 := (f 90)) (ni := (f 89)) (m := (g 67)) (mk := (g 76)) (g2 := (g 80)) (mh := (g 78)) (mt := (g 79)) (C := (g 75)) (g6 := (g 81)) (g7 := (g 82)) (g8 := (g 103)) (g9 := (g 87)) (g10 := (g 88)) (tf := (g 85)) (tt := (g 86)) (g13 := (g 89)) R hI.sky tl
  refine zv_ald (ins := .aload_n 1) (len := 1) hB (by decide +kernel) rfl rfl rfl ?_
  refine zw_arg (j := 1) hB hR i0 i6 hL (by decide +kernel) (by decide) (by decide) rfl ?_
  refine zw_arg (j := 2) hB hR i0 i6 hL (by decide +kernel) (by decide) (by decide) rfl ?_
  refine zw_arg (j := 3) hB hR i0 i6 hL (by decide +kernel) (by decide) (by decide) rfl ?_
  refine zv_cv (i := 141) (c := 0) (mm2 := zxm175) (rm2 := (13, 780)) (va := [.inl (zw_a xs i 1), .inl (zw_a xs i 2), .inl (zw_a xs i 3)]) (S := []) hB (zE_up (by rfl) (by rfl) (by rfl) (by rfl) (by rfl) (zo_X_both e1)) (by decide +kernel) rfl rfl (by decide) (by decide) rfl ?_
  refine zv_pop hB (by decide +kernel) rfl ?_
  refine zv_ald (ins := .aload_n 2) (len := 1) hB (by decide +kernel) rfl rfl rfl ?_
  refine zw_arg (j := 1) hB hR i0 i6 hL (by decide +kernel) (by decide) (by decide) rfl ?_
  refine zw_arg (j := 2) hB hR i0 i6 hL (by decide +kernel) (by decide) (by decide) rfl ?_
  refine zw_arg (j := 3) hB hR i0 i6 hL (by decide +kernel) (by decide) (by decide) rfl ?_
  refine zv_cv (i := 144) (c := 1) (mm2 := zxm310) (rm2 := (7, 420)) (va := [.inl (zw_a xs i 1), .inl (zw_a xs i 2), .inl (zw_a xs i 3)]) (S := []) hB (zE_up (by rfl) (by rfl) (by rfl) (by rfl) (by rfl) (zo_M_both e2)) (by decide +kernel) rfl rfl (by decide) (by decide) rfl ?_
  refine zv_pop hB (by decide +kernel) rfl ?_
  refine zv_goto hB (off := 240) (t := 1593) (by decide +kernel) rfl ?_
  exact zw_tail hB i0 i6 hL (k _ _ ⟨hI.law, hI.sky, hI.sea, hI.tape, hI.tale, hI.kept, h1, hI.le, hI.ln⟩)
theorem zc_hidden {good : Nat → List zNV → List zNV → List zNV → List (Int → Int) → Prop} {Lx : Nat} {xs : Nat → Int32} {i : Int} {f : Nat → Int} {g : Nat → Int → Int} (hL : Lx ≤ 3072) (hB : zw_B good) (hR : zw_R Lx xs good) (i0 : 0 ≤ i) (i6 : i + 6 ≤ Lx) (hI : zI f g) (k : ∀ f2 g2, zI f2 g2 → good 18 (zw_lc (i + 6)) [] (zE_F f2) (zE_G g2)) : good 1356 (zw_lc i) [] (zE_F f) (zE_G g) := by
  obtain ⟨L, R⟩ := hI.law
  have tl := zI_tl hI
  obtain ⟨o1, e1, h1⟩ := yw_hiddenX (x := (zw_a xs i 1)) (y := (zw_a xs i 2)) (w := (zw_a xs i 3)) (n := (f 37)) (f5 := (f 25)) (f6 := (f 26)) (f7 := (f 27)) (h := (f 1)) (u := (f 28)) (f10 := (f 29)) (t := (f 0)) (sc := (f 3)) (sr := (f 4)) (cl := (f 2)) (tS := (f 30)) (f16 := (f 31)) (nc := (f 32)) (f18 := (f 33)) (sP := (f 34)) (tL := (f 35)) (lP := (f 36)) (f24 := (f 41)) (f25 := (f 38)) (f26 := (f 64)) (g0 := (g 15)) (g1 := (g 16)) (co := (g 0)) (ro := (g 1)) (br := (g 2)) (kd := (g 17)) (hf := (g 18)) (to := (g 19)) (K := (g 20)) (g9 := (g 21)) (V := (g 22)) (g11 := (g 23)) (g12 := (g 24)) (g13 := (g 25)) (g14 := (g 26)) (g15 := (g 27)) (g16 := (g 28)) R hI.sky hI.so
  obtain ⟨o2, e2, h2⟩ := yw_hiddenM (x := (zw_a xs i 1)) (y := (zw_a xs i 2)) (w := (zw_a xs i 3)) (n := (f 88)) (mc := (f 83)) (f2 := (f 84)) (f3 := (f 90)) (ni := (f 89)) (m := (g 67)) (mk := (g 76)) (g2 := (g 80)) (mh := (g 78)) (mt := (g 79)) (C := (g 75)) (g6 := (g 81)) (g7 := (g 82)) (g8 := (g 87)) (g9 := (g 88)) (tf := (g 85)) (tt := (g 86)) (g12 := (g 89)) R hI.sky tl
  refine zv_ald (ins := .aload_n 1) (len := 1) hB (by decide +kernel) rfl rfl rfl ?_
  refine zw_arg (j := 1) hB hR i0 i6 hL (by decide +kernel) (by decide) (by decide) rfl ?_
  refine zw_arg (j := 2) hB hR i0 i6 hL (by decide +kernel) (by decide) (by decide) rfl ?_
  refine zw_arg (j := 3) hB hR i0 i6 hL (by decide +kernel) (by decide) (by decide) rfl ?_
  refine zv_cv (i := 145) (c := 0) (mm2 := zxm177) (rm2 := (21, 1260)) (va := [.inl (zw_a xs i 1), .inl (zw_a xs i 2), .inl (zw_a xs i 3)]) (S := []) hB (zE_up (by rfl) (by rfl) (by rfl) (by rfl) (by rfl) (zo_X_hidden e1)) (by decide +kernel) rfl rfl (by decide) (by decide) rfl ?_
  refine zv_pop hB (by decide +kernel) rfl ?_
  refine zv_ald (ins := .aload_n 2) (len := 1) hB (by decide +kernel) rfl rfl rfl ?_
  refine zw_arg (j := 1) hB hR i0 i6 hL (by decide +kernel) (by decide) (by decide) rfl ?_
  refine zw_arg (j := 2) hB hR i0 i6 hL (by decide +kernel) (by decide) (by decide) rfl ?_
  refine zw_arg (j := 3) hB hR i0 i6 hL (by decide +kernel) (by decide) (by decide) rfl ?_
  refine zv_cv (i := 148) (c := 1) (mm2 := zxm312) (rm2 := (8, 480)) (va := [.inl (zw_a xs i 1), .inl (zw_a xs i 2), .inl (zw_a xs i 3)]) (S := []) hB (zE_up (by rfl) (by rfl) (by rfl) (by rfl) (by rfl) (zo_M_hidden e2)) (by decide +kernel) rfl rfl (by decide) (by decide) rfl ?_
  refine zv_pop hB (by decide +kernel) rfl ?_
  refine zv_goto hB (off := 197) (t := 1593) (by decide +kernel) rfl ?_
  exact zw_tail hB i0 i6 hL (k _ _ ⟨hI.law, zI_sky hI fun j _ _ => h2 j, zI_sea hI fun j _ _ => h2 j, hI.tape, hI.tale, hI.kept, h1, hI.le, hI.ln⟩)
theorem zc_log {good : Nat → List zNV → List zNV → List zNV → List (Int → Int) → Prop} {Lx : Nat} {xs : Nat → Int32} {i : Int} {f : Nat → Int} {g : Nat → Int → Int} (hL : Lx ≤ 3072) (hB : zw_B good) (hR : zw_R Lx xs good) (i0 : 0 ≤ i) (i6 : i + 6 ≤ Lx) (hI : zI f g) (k : ∀ f2 g2, zI f2 g2 → good 18 (zw_lc (i + 6)) [] (zE_F f2) (zE_G g2)) : good 1399 (zw_lc i) [] (zE_F f) (zE_G g) := by
  obtain ⟨L, R⟩ := hI.law
  have tl := zI_tl hI
  obtain ⟨o1, e1, h1⟩ := yw_logX (a := (zw_a xs i 1)) (w := (zw_a xs i 2)) (ln := (f 37)) (n := (f 6)) (t := (f 0)) (f4 := (f 42)) (h := (f 1)) (f6 := (f 43)) (u := (f 28)) (f8 := (f 44)) (cl := (f 2)) (f10 := (f 45)) (sc := (f 3)) (f12 := (f 46)) (sr := (f 4)) (f14 := (f 47)) (ch := (f 48)) (f16 := (f 49)) (f20 := (f 25)) (f21 := (f 26)) (f22 := (f 27)) (f23 := (f 29)) (tS := (f 30)) (f25 := (f 31)) (nc := (f 32)) (f27 := (f 33)) (sP := (f 34)) (nn := (f 38)) (tL := (f 35)) (lP := (f 36)) (f34 := (f 41)) (T := (g 7)) (g1 := (g 59)) (gl := (g 6)) (co := (g 0)) (g4 := (g 29)) (ro := (g 1)) (g6 := (g 30)) (br := (g 2)) (g8 := (g 31)) (wc := (g 3)) (g10 := (g 32)) (wr := (g 4)) (g12 := (g 33)) (g13 := (g 15)) (g14 := (g 16)) (kd := (g 17)) (hf := (g 18)) (to := (g 19)) (K := (g 20)) (g19 := (g 21)) (V := (g 22)) (g21 := (g 23)) (g22 := (g 24)) (g23 := (g 25)) (nr := (g 26)) (g25 := (g 27)) (g26 := (g 28)) R hI.sky hI.sea hI.tape.2.2.2 hI.so
  obtain ⟨o2, e2, h2⟩ := yw_logM (a := (zw_a xs i 1)) (w := (zw_a xs i 2)) (ln := (f 88)) (n := (f 74)) (mc := (f 83)) (f3 := (f 84)) (f4 := (f 90)) (nn := (f 89)) (A := (g 104)) (M := (g 68)) (B := (g 105)) (sp := (g 106)) (m := (g 67)) (aA := (g 99)) (mk := (g 76)) (g := (g 80)) (mh := (g 78)) (mt := (g 79)) (C := (g 75)) (S := (g 81)) (d1 := (g 82)) (d2 := (g 87)) (d3 := (g 88)) (tf := (g 85)) (tt := (g 86)) (d4 := (g 89)) R hI.sky hI.sea hI.tape.2.2.2 tl
  refine zv_ald (ins := .aload_n 1) (len := 1) hB (by decide +kernel) rfl rfl rfl ?_
  refine zw_arg (j := 1) hB hR i0 i6 hL (by decide +kernel) (by decide) (by decide) rfl ?_
  refine zw_arg (j := 2) hB hR i0 i6 hL (by decide +kernel) (by decide) (by decide) rfl ?_
  refine zv_cv (i := 149) (c := 0) (mm2 := zxm182) (rm2 := (14, 840)) (va := [.inl (zw_a xs i 1), .inl (zw_a xs i 2)]) (S := []) hB (zE_up (by rfl) (by rfl) (by rfl) (by rfl) (by rfl) (zo_X_log e1)) (by decide +kernel) rfl rfl (by decide) (by decide) rfl ?_
  refine zv_pop hB (by decide +kernel) rfl ?_
  refine zv_ald (ins := .aload_n 2) (len := 1) hB (by decide +kernel) rfl rfl rfl ?_
  refine zw_arg (j := 1) hB hR i0 i6 hL (by decide +kernel) (by decide) (by decide) rfl ?_
  refine zw_arg (j := 2) hB hR i0 i6 hL (by decide +kernel) (by decide) (by decide) rfl ?_
  refine zv_cv (i := 152) (c := 1) (mm2 := zxm314) (rm2 := (7, 420)) (va := [.inl (zw_a xs i 1), .inl (zw_a xs i 2)]) (S := []) hB (zE_up (by rfl) (by rfl) (by rfl) (by rfl) (by rfl) (zo_M_log e2)) (by decide +kernel) rfl rfl (by decide) (by decide) rfl ?_
  refine zv_pop hB (by decide +kernel) rfl ?_
  refine zv_goto hB (off := 164) (t := 1593) (by decide +kernel) rfl ?_
  exact zw_tail hB i0 i6 hL (k _ _ ⟨hI.law, zI_sky hI h2.2, zI_sea hI h2.2, zI_size hI h1.1 (h2.1.trans (by rw [hI.tale.1, hI.tape.1])) (by unfold yw_logS; split; exact .inl rfl; split; exact .inl rfl; split; exact .inl rfl; split; exact .inl rfl; exact .inr rfl), hI.tale, hI.kept, h1.2, hI.le, hI.ln⟩)
end
section
/-! The calls of the law, case by case. -/
theorem zc_over {good : Nat → List zNV → List zNV → List zNV → List (Int → Int) → Prop} {Lx : Nat} {xs : Nat → Int32} {i : Int} {f : Nat → Int} {g : Nat → Int → Int} (hL : Lx ≤ 3072) (hB : zw_B good) (hR : zw_R Lx xs good) (i0 : 0 ≤ i) (i6 : i + 6 ≤ Lx) (hI : zI f g) (k : ∀ f2 g2, zI f2 g2 → good 18 (zw_lc (i + 6)) [] (zE_F f2) (zE_G g2)) : good 1432 (zw_lc i) [] (zE_F f) (zE_G g) := by
  obtain ⟨L, R⟩ := hI.law
  have tl := zI_tl hI
  obtain ⟨v0, e1, e2⟩ := yo_over (x := (zw_a xs i 1)) (y := (zw_a xs i 2)) (t := (f 0)) (ro := (g 1)) (co := (g 0)) (m := (g 67)) hI.sky
  refine zv_ald (ins := .aload_n 1) (len := 1) hB (by decide +kernel) rfl rfl rfl ?_
  refine zw_arg (j := 1) hB hR i0 i6 hL (by decide +kernel) (by decide) (by decide) rfl ?_
  refine zw_arg (j := 2) hB hR i0 i6 hL (by decide +kernel) (by decide) (by decide) rfl ?_
  refine zv_cv (i := 153) (c := 0) (mm2 := zxm187) (rm2 := (1, 60)) (va := [.inl (zw_a xs i 1), .inl (zw_a xs i 2)]) (S := []) hB (zE_up (by rfl) (by rfl) (by rfl) (by rfl) (by rfl) (zo_X_over e1)) (by decide +kernel) rfl rfl (by decide) (by decide) rfl ?_
  refine zv_pop hB (by decide +kernel) rfl ?_
  refine zv_ald (ins := .aload_n 2) (len := 1) hB (by decide +kernel) rfl rfl rfl ?_
  refine zw_arg (j := 1) hB hR i0 i6 hL (by decide +kernel) (by decide) (by decide) rfl ?_
  refine zw_arg (j := 2) hB hR i0 i6 hL (by decide +kernel) (by decide) (by decide) rfl ?_
  refine zv_cv (i := 156) (c := 1) (mm2 := zxm316) (rm2 := (2, 120)) (va := [.inl (zw_a xs i 1), .inl (zw_a xs i 2)]) (S := []) hB (zE_up (by rfl) (by rfl) (by rfl) (by rfl) (by rfl) (zo_M_over e2)) (by decide +kernel) rfl rfl (by decide) (by decide) rfl ?_
  refine zv_pop hB (by decide +kernel) rfl ?_
  refine zv_goto hB (off := 131) (t := 1593) (by decide +kernel) rfl ?_
  exact zw_tail hB i0 i6 hL (k _ _ ⟨hI.law, hI.sky, hI.sea, hI.tape, hI.tale, hI.kept, hI.so, hI.le, hI.ln⟩)
theorem zc_home {good : Nat → List zNV → List zNV → List zNV → List (Int → Int) → Prop} {Lx : Nat} {xs : Nat → Int32} {i : Int} {f : Nat → Int} {g : Nat → Int → Int} (hL : Lx ≤ 3072) (hB : zw_B good) (hR : zw_R Lx xs good) (i0 : 0 ≤ i) (i6 : i + 6 ≤ Lx) (hI : zI f g) (k : ∀ f2 g2, zI f2 g2 → good 18 (zw_lc (i + 6)) [] (zE_F f2) (zE_G g2)) : good 1465 (zw_lc i) [] (zE_F f) (zE_G g) := by
  obtain ⟨L, R⟩ := hI.law
  have tl := zI_tl hI
  obtain ⟨v0, v1, v2, v3, v4, v5, v6, v7, v8, v9, v10, v11, v12, v13, v14, v15, v16, v17, v18, v19, v20, v21, v22, v23, v24, v25, v26, v27, v28, v29, v30, v31, v32, v33, v34, v35, v36, v37, v38, e1, e2, fr⟩ := yo_home (x := (zw_a xs i 1)) (y := (zw_a xs i 2)) (f3 := (f 25)) (f4 := (f 26)) (f5 := (f 27)) (h := (f 1)) (u := (f 28)) (f8 := (f 29)) (t := (f 0)) (sc := (f 3)) (sr := (f 4)) (cl := (f 2)) (tS := (f 30)) (f14 := (f 31)) (nc := (f 32)) (f16 := (f 33)) (sP := (f 34)) (tL := (f 35)) (lP := (f 36)) (f20 := (f 42)) (f21 := (f 43)) (f22 := (f 44)) (f23 := (f 45)) (f24 := (f 46)) (f25 := (f 47)) (ch := (f 48)) (f27 := (f 49)) (f30 := (f 59)) (f31 := (f 60)) (f32 := (f 61)) (f33 := (f 62)) (f34 := (f 63)) (g0 := (g 15)) (g1 := (g 16)) (co := (g 0)) (ro := (g 1)) (br := (g 2)) (kd := (g 17)) (hf := (g 18)) (to := (g 19)) (K := (g 20)) (g9 := (g 21)) (V := (g 22)) (g11 := (g 23)) (g12 := (g 24)) (g13 := (g 29)) (g14 := (g 30)) (g15 := (g 31)) (wc := (g 3)) (g17 := (g 32)) (wr := (g 4)) (g19 := (g 33)) (g20 := (g 56)) (g21 := (g 57)) (g22 := (g 58)) (mc := (f 83)) (f1 := (f 84)) (m := (g 67)) (mk := (g 76)) (h2 := (g 80)) (mh := (g 78)) (mt := (g 79)) (C := (g 75)) (h6 := (g 81)) (h7 := (g 82)) (h8 := (g 103)) (h9 := (g 99)) R hI.sky
  refine zv_ald (ins := .aload_n 1) (len := 1) hB (by decide +kernel) rfl rfl rfl ?_
  refine zw_arg (j := 1) hB hR i0 i6 hL (by decide +kernel) (by decide) (by decide) rfl ?_
  refine zw_arg (j := 2) hB hR i0 i6 hL (by decide +kernel) (by decide) (by decide) rfl ?_
  refine zv_cv (i := 157) (c := 0) (mm2 := zxm188) (rm2 := (6, 360)) (va := [.inl (zw_a xs i 1), .inl (zw_a xs i 2)]) (S := []) hB (zE_up (by rfl) (by rfl) (by rfl) (by rfl) (by rfl) (zo_X_home e1)) (by decide +kernel) rfl rfl (by decide) (by decide) rfl ?_
  refine zv_pop hB (by decide +kernel) rfl ?_
  refine zv_ald (ins := .aload_n 2) (len := 1) hB (by decide +kernel) rfl rfl rfl ?_
  refine zw_arg (j := 1) hB hR i0 i6 hL (by decide +kernel) (by decide) (by decide) rfl ?_
  refine zw_arg (j := 2) hB hR i0 i6 hL (by decide +kernel) (by decide) (by decide) rfl ?_
  refine zv_cv (i := 160) (c := 1) (mm2 := zxm317) (rm2 := (6, 360)) (va := [.inl (zw_a xs i 1), .inl (zw_a xs i 2)]) (S := []) hB (zE_up (by rfl) (by rfl) (by rfl) (by rfl) (by rfl) (zo_M_home e2)) (by decide +kernel) rfl rfl (by decide) (by decide) rfl ?_
  refine zv_pop hB (by decide +kernel) rfl ?_
  refine zv_goto hB (off := 98) (t := 1593) (by decide +kernel) rfl ?_
  exact zw_tail hB i0 i6 hL (k _ _ ⟨hI.law, zI_sky hI fr, zI_sea hI fr, hI.tape, hI.tale, hI.kept, hI.so, hI.le, hI.ln⟩)
theorem zc_seed {good : Nat → List zNV → List zNV → List zNV → List (Int → Int) → Prop} {Lx : Nat} {xs : Nat → Int32} {i : Int} {f : Nat → Int} {g : Nat → Int → Int} (hL : Lx ≤ 3072) (hB : zw_B good) (hR : zw_R Lx xs good) (i0 : 0 ≤ i) (i6 : i + 6 ≤ Lx) (hI : zI f g) (k : ∀ f2 g2, zI f2 g2 → good 18 (zw_lc (i + 6)) [] (zE_F f2) (zE_G g2)) : good 1498 (zw_lc i) [] (zE_F f) (zE_G g) := by
  obtain ⟨L, R⟩ := hI.law
  have tl := zI_tl hI
  obtain ⟨v0, v1, v2, e1, e2, k', fr⟩ := yo_seed (n := (zw_a xs i 1)) (ch := (f 48)) (m := (g 67)) hI.sky
  refine zv_ald (ins := .aload_n 1) (len := 1) hB (by decide +kernel) rfl rfl rfl ?_
  refine zw_arg (j := 1) hB hR i0 i6 hL (by decide +kernel) (by decide) (by decide) rfl ?_
  refine zv_cv (i := 161) (c := 0) (mm2 := zxm190) (rm2 := (1, 60)) (va := [.inl (zw_a xs i 1)]) (S := []) hB (zE_up (by rfl) (by rfl) (by rfl) (by rfl) (by rfl) (zo_X_seed e1)) (by decide +kernel) rfl rfl (by decide) (by decide) rfl ?_
  refine zv_pop hB (by decide +kernel) rfl ?_
  refine zv_ald (ins := .aload_n 2) (len := 1) hB (by decide +kernel) rfl rfl rfl ?_
  refine zw_arg (j := 1) hB hR i0 i6 hL (by decide +kernel) (by decide) (by decide) rfl ?_
  refine zv_cv (i := 164) (c := 1) (mm2 := zxm318) (rm2 := (1, 60)) (va := [.inl (zw_a xs i 1)]) (S := []) hB (zE_up (by rfl) (by rfl) (by rfl) (by rfl) (by rfl) (zo_M_seed e2)) (by decide +kernel) rfl rfl (by decide) (by decide) rfl ?_
  refine zv_pop hB (by decide +kernel) rfl ?_
  refine zv_goto hB (off := 75) (t := 1593) (by decide +kernel) rfl ?_
  exact zw_tail hB i0 i6 hL (k _ _ ⟨hI.law, k', yk_sea_fr hI.sea fun j hj => fr j (by omega), hI.tape, hI.tale, hI.kept, hI.so, hI.le, hI.ln⟩)
theorem zc_keep {good : Nat → List zNV → List zNV → List zNV → List (Int → Int) → Prop} {Lx : Nat} {xs : Nat → Int32} {i : Int} {f : Nat → Int} {g : Nat → Int → Int} (hL : Lx ≤ 3072) (hB : zw_B good) (hR : zw_R Lx xs good) (i0 : 0 ≤ i) (i6 : i + 6 ≤ Lx) (hI : zI f g) (k : ∀ f2 g2, zI f2 g2 → good 18 (zw_lc (i + 6)) [] (zE_F f2) (zE_G g2)) : good 1521 (zw_lc i) [] (zE_F f) (zE_G g) := by
  obtain ⟨L, R⟩ := hI.law
  have tl := zI_tl hI
  obtain ⟨v0, v1, v2, v3, v4, v5, v6, v7, v8, e1, e2, k', z'⟩ := yo_keep (t := (f 0)) (f1 := (f 65)) (h := (f 1)) (f3 := (f 66)) (u := (f 28)) (f5 := (f 67)) (cl := (f 2)) (f7 := (f 68)) (sc := (f 3)) (f9 := (f 69)) (sr := (f 4)) (f11 := (f 70)) (ch := (f 48)) (f13 := (f 71)) (ts := (f 5)) (f15 := (f 72)) (f16 := (f 73)) (co := (g 0)) (g1 := (g 60)) (ro := (g 1)) (g3 := (g 61)) (br := (g 2)) (g5 := (g 62)) (wc := (g 3)) (g7 := (g 63)) (wr := (g 4)) (g9 := (g 64)) (gl := (g 6)) (g11 := (g 65)) (gp := (g 5)) (g13 := (g 66)) (f0 := (f 96)) (m := (g 67)) (mK := (g 107)) hI.sky hI.sea
  refine zv_ald (ins := .aload_n 1) (len := 1) hB (by decide +kernel) rfl rfl rfl ?_
  refine zv_cv (i := 165) (c := 0) (mm2 := zxm191) (rm2 := (2, 120)) (va := []) (S := []) hB (zE_up (by rfl) (by rfl) (by rfl) (by rfl) (by rfl) (zo_X_keep e1)) (by decide +kernel) rfl rfl (by decide) (by decide) rfl ?_
  refine zv_pop hB (by decide +kernel) rfl ?_
  refine zv_ald (ins := .aload_n 2) (len := 1) hB (by decide +kernel) rfl rfl rfl ?_
  refine zv_cv (i := 168) (c := 1) (mm2 := zxm319) (rm2 := (1, 60)) (va := []) (S := []) hB (zE_up (by rfl) (by rfl) (by rfl) (by rfl) (by rfl) (zo_M_keep e2)) (by decide +kernel) rfl rfl (by decide) (by decide) rfl ?_
  refine zv_pop hB (by decide +kernel) rfl ?_
  refine zv_goto hB (off := 62) (t := 1593) (by decide +kernel) rfl ?_
  exact zw_tail hB i0 i6 hL (k _ _ ⟨hI.law, hI.sky, hI.sea, hI.tape, hI.tale, ⟨rfl, fun _ => ⟨k', z'⟩⟩, hI.so, hI.le, hI.ln⟩)
theorem zc_undo {good : Nat → List zNV → List zNV → List zNV → List (Int → Int) → Prop} {Lx : Nat} {xs : Nat → Int32} {i : Int} {f : Nat → Int} {g : Nat → Int → Int} (hL : Lx ≤ 3072) (hB : zw_B good) (hR : zw_R Lx xs good) (i0 : 0 ≤ i) (i6 : i + 6 ≤ Lx) (hI : zI f g) (k : ∀ f2 g2, zI f2 g2 → good 18 (zw_lc (i + 6)) [] (zE_F f2) (zE_G g2)) : good 1534 (zw_lc i) [] (zE_F f) (zE_G g) := by
  obtain ⟨L, R⟩ := hI.law
  have tl := zI_tl hI
  obtain ⟨v0, v1, v2, v3, v4, v5, v6, v7, v8, v9, v10, v11, v12, v13, v14, v15, v16, e1, e2, k', z'⟩ := yo_undo (t := (f 65)) (f2 := (f 0)) (h := (f 66)) (f4 := (f 1)) (u := (f 67)) (f6 := (f 28)) (cl := (f 68)) (f8 := (f 2)) (sc := (f 69)) (f10 := (f 3)) (sr := (f 70)) (f12 := (f 4)) (ch := (f 71)) (f14 := (f 48)) (ts := (f 72)) (f16 := (f 5)) (co := (g 60)) (g1 := (g 0)) (ro := (g 61)) (g3 := (g 1)) (br := (g 62)) (g5 := (g 2)) (wc := (g 63)) (g7 := (g 3)) (wr := (g 64)) (g9 := (g 4)) (gl := (g 65)) (g11 := (g 6)) (gp := (g 66)) (g13 := (g 5)) (mK := (g 107)) (m := (g 67)) (ik := (f 73)) hI.kept.2 hI.sky hI.sea
  rw [← hI.kept.1] at e2
  refine zv_ald (ins := .aload_n 1) (len := 1) hB (by decide +kernel) rfl rfl rfl ?_
  refine zv_cv (i := 169) (c := 0) (mm2 := zxm193) (rm2 := (2, 120)) (va := []) (S := []) hB (zE_up (by rfl) (by rfl) (by rfl) (by rfl) (by rfl) (zo_X_undo e1)) (by decide +kernel) rfl rfl (by decide) (by decide) rfl ?_
  refine zv_pop hB (by decide +kernel) rfl ?_
  refine zv_ald (ins := .aload_n 2) (len := 1) hB (by decide +kernel) rfl rfl rfl ?_
  refine zv_cv (i := 173) (c := 1) (mm2 := zxm320) (rm2 := (1, 60)) (va := []) (S := []) hB (zE_up (by rfl) (by rfl) (by rfl) (by rfl) (by rfl) (zo_M_undo e2)) (by decide +kernel) rfl rfl (by decide) (by decide) rfl ?_
  refine zv_pop hB (by decide +kernel) rfl ?_
  refine zv_goto hB (off := 49) (t := 1593) (by decide +kernel) rfl ?_
  exact zw_tail hB i0 i6 hL (k _ _ ⟨hI.law, k', z', hI.tape, hI.tale, hI.kept, hI.so, hI.le, hI.ln⟩)
theorem zc_check {good : Nat → List zNV → List zNV → List zNV → List (Int → Int) → Prop} {Lx : Nat} {xs : Nat → Int32} {i : Int} {f : Nat → Int} {g : Nat → Int → Int} (hL : Lx ≤ 3072) (hB : zw_B good) (hR : zw_R Lx xs good) (i0 : 0 ≤ i) (i6 : i + 6 ≤ Lx) (hI : zI f g) (k : ∀ f2 g2, zI f2 g2 → good 18 (zw_lc (i + 6)) [] (zE_F f2) (zE_G g2)) : good 1547 (zw_lc i) [] (zE_F f) (zE_G g) := by
  obtain ⟨L, R⟩ := hI.law
  have tl := zI_tl hI
  obtain ⟨v0, v1, v2, e1, e2, p'⟩ := yo_check (x := (zw_a xs i 1)) (n := (f 6)) (ts := (f 5)) (T := (g 7)) (gp := (g 5)) (n2 := (f 74)) (M := (g 68)) (m := (g 67)) hI.sea hI.tape
  refine zv_ald (ins := .aload_n 1) (len := 1) hB (by decide +kernel) rfl rfl rfl ?_
  refine zw_arg (j := 1) hB hR i0 i6 hL (by decide +kernel) (by decide) (by decide) rfl ?_
  refine zv_cv (i := 174) (c := 0) (mm2 := zxm194) (rm2 := (2, 120)) (va := [.inl (zw_a xs i 1)]) (S := []) hB (zE_up (by rfl) (by rfl) (by rfl) (by rfl) (by rfl) (zo_X_check e1)) (by decide +kernel) rfl rfl (by decide) (by decide) rfl ?_
  refine zv_pop hB (by decide +kernel) rfl ?_
  refine zv_ald (ins := .aload_n 2) (len := 1) hB (by decide +kernel) rfl rfl rfl ?_
  refine zw_arg (j := 1) hB hR i0 i6 hL (by decide +kernel) (by decide) (by decide) rfl ?_
  refine zv_cv (i := 177) (c := 1) (mm2 := zxm321) (rm2 := (2, 120)) (va := [.inl (zw_a xs i 1)]) (S := []) hB (zE_up (by rfl) (by rfl) (by rfl) (by rfl) (by rfl) (zo_M_check e2)) (by decide +kernel) rfl rfl (by decide) (by decide) rfl ?_
  refine zv_pop hB (by decide +kernel) rfl ?_
  refine zv_goto hB (off := 26) (t := 1593) (by decide +kernel) rfl ?_
  exact zw_tail hB i0 i6 hL (k _ _ ⟨hI.law, hI.sky, hI.sea, p', hI.tale, hI.kept, hI.so, hI.le, hI.ln⟩)
theorem zc_count {good : Nat → List zNV → List zNV → List zNV → List (Int → Int) → Prop} {Lx : Nat} {xs : Nat → Int32} {i : Int} {f : Nat → Int} {g : Nat → Int → Int} (hL : Lx ≤ 3072) (hB : zw_B good) (hR : zw_R Lx xs good) (i0 : 0 ≤ i) (i6 : i + 6 ≤ Lx) (hI : zI f g) (k : ∀ f2 g2, zI f2 g2 → good 18 (zw_lc (i + 6)) [] (zE_F f2) (zE_G g2)) : good 1570 (zw_lc i) [] (zE_F f) (zE_G g) := by
  obtain ⟨L, R⟩ := hI.law
  have tl := zI_tl hI
  obtain ⟨v0, v1, e1, e2, _⟩ := yo_count (n := (zw_a xs i 1)) (h := (f 1)) (u := (f 28)) (cl := (f 2)) (t := (f 0)) (ts := (f 5)) (ch := (f 48)) (sc := (f 3)) (sr := (f 4)) (gl := (g 6)) (gp := (g 5)) (m := (g 67)) (nc := (f 32)) (tl := (f 37)) (sz := (f 6)) hI.sky hI.sea
  have e2 : zf_M_count (zw_a xs i 1) (f 83) (f 88) (f 74) (g 67) = some v1 := by rw [show f 83 = f 32 from R.1.2.2.2, hI.tale.1, hI.tape.1]; exact e2
  refine zv_ald (ins := .aload_n 1) (len := 1) hB (by decide +kernel) rfl rfl rfl ?_
  refine zw_arg (j := 1) hB hR i0 i6 hL (by decide +kernel) (by decide) (by decide) rfl ?_
  refine zv_cv (i := 178) (c := 0) (mm2 := zxm196) (rm2 := (2, 120)) (va := [.inl (zw_a xs i 1)]) (S := []) hB (zE_up (by rfl) (by rfl) (by rfl) (by rfl) (by rfl) (zo_X_count e1)) (by decide +kernel) rfl rfl (by decide) (by decide) rfl ?_
  refine zv_pop hB (by decide +kernel) rfl ?_
  refine zv_ald (ins := .aload_n 2) (len := 1) hB (by decide +kernel) rfl rfl rfl ?_
  refine zw_arg (j := 1) hB hR i0 i6 hL (by decide +kernel) (by decide) (by decide) rfl ?_
  refine zv_cv (i := 181) (c := 1) (mm2 := zxm323) (rm2 := (2, 120)) (va := [.inl (zw_a xs i 1)]) (S := []) hB (zE_up (by rfl) (by rfl) (by rfl) (by rfl) (by rfl) (zo_M_count e2)) (by decide +kernel) rfl rfl (by decide) (by decide) rfl ?_
  refine zv_pop hB (by decide +kernel) rfl ?_
  refine zv_goto hB (off := 3) (t := 1593) (by decide +kernel) rfl ?_
  exact zw_tail hB i0 i6 hL (k _ _ ⟨hI.law, hI.sky, hI.sea, hI.tape, hI.tale, hI.kept, hI.so, hI.le, hI.ln⟩)
end
section
/-! law, tale: the calls over names. -/
theorem zE_X_law {f : Nat → Int} {g : Nat → Int → Int} {x1 : Int} {o : Int × Int × Int × Int × Int × Int × Int × Int × Int × Int × Int × (Int → Int) × (Int → Int) × (Int → Int) × (Int → Int) × (Int → Int) × (Int → Int) × Nat × Nat} (h : zf_X_law x1 (f 6) (f 9) (f 10) (f 11) (f 13) (f 14) (f 15) (f 16) (f 17) (f 18) (g 7) (g 8) (g 9) (g 10) (g 11) (g 12) (g 13) = some o) : zv_Fn z_TB z_cl z_KX zyE zxm34 (81, 4860) [.inr 0, .inl x1] (zE_F f) (zE_G g) (some o.1) (zE_Fr (zv_rc [0, 11, 13, 14, 12, 15, 16, 17, 18, 19, 20, 21] o.2.2.2.2.2.2.2.2.2.2.2.2.2.2.2.2.2.1) (zv_rc [0, 11, 13, 14, 12, 15, 16, 17, 18, 19, 20, 21] o.2.2.2.2.2.2.2.2.2.2.2.2.2.2.2.2.2.2) 1000 22 24 1000 1000 1000 1000 1000 1000 (zL_u [(6, o.2.1), (9, o.2.2.1), (10, o.2.2.2.1), (11, o.2.2.2.2.1), (13, o.2.2.2.2.2.1), (14, o.2.2.2.2.2.2.1), (15, o.2.2.2.2.2.2.2.1), (16, o.2.2.2.2.2.2.2.2.1), (17, o.2.2.2.2.2.2.2.2.2.1), (18, o.2.2.2.2.2.2.2.2.2.2.1)] f)) (zE_G (zL_w [(8, o.2.2.2.2.2.2.2.2.2.2.2.1), (9, o.2.2.2.2.2.2.2.2.2.2.2.2.1), (10, o.2.2.2.2.2.2.2.2.2.2.2.2.2.1), (11, o.2.2.2.2.2.2.2.2.2.2.2.2.2.2.1), (12, o.2.2.2.2.2.2.2.2.2.2.2.2.2.2.2.1), (13, o.2.2.2.2.2.2.2.2.2.2.2.2.2.2.2.2.1)] g)) := zv_emq (va2 := [.inr 0, .inl x1]) (F := zE_F f) (F' := zE_Fr (zv_rc [0, 11, 13, 14, 12, 15, 16, 17, 18, 19, 20, 21] o.2.2.2.2.2.2.2.2.2.2.2.2.2.2.2.2.2.1) (zv_rc [0, 11, 13, 14, 12, 15, 16, 17, 18, 19, 20, 21] o.2.2.2.2.2.2.2.2.2.2.2.2.2.2.2.2.2.2) 1000 22 24 1000 1000 1000 1000 1000 1000 (zL_u [(6, o.2.1), (9, o.2.2.1), (10, o.2.2.2.1), (11, o.2.2.2.2.1), (13, o.2.2.2.2.2.1), (14, o.2.2.2.2.2.2.1), (15, o.2.2.2.2.2.2.2.1), (16, o.2.2.2.2.2.2.2.2.1), (17, o.2.2.2.2.2.2.2.2.2.1), (18, o.2.2.2.2.2.2.2.2.2.2.1)] f)) (G := zE_G g) (G' := zE_G (zL_w [(8, o.2.2.2.2.2.2.2.2.2.2.2.1), (9, o.2.2.2.2.2.2.2.2.2.2.2.2.1), (10, o.2.2.2.2.2.2.2.2.2.2.2.2.2.1), (11, o.2.2.2.2.2.2.2.2.2.2.2.2.2.2.1), (12, o.2.2.2.2.2.2.2.2.2.2.2.2.2.2.2.1), (13, o.2.2.2.2.2.2.2.2.2.2.2.2.2.2.2.2.1)] g)) (ρ := [0, 11, 13, 14, 12, 15, 16, 17, 18, 19, 20, 21]) (φ := [6, 7, 9, 10, 11, 12, 13, 14, 15, 16, 17, 18, 8]) (ψ := [7, 8, 9, 10, 11, 12, 13]) [none, none, none, none, none, none, some 0, some 1, some 12, some 2, some 3, some 4, some 5, some 6, some 7, some 8, some 9, some 10, some 11, none, none, none, none, none, none, none, none, none, none, none, none, none, none, none, none, none, none, none, none, none, none, none, none, none, none, none, none, none, none, none, none, none, none, none, none, none, none, none, none, none, none, none, none, none, none, none, none, none, none, none, none, none, none, none, none, none, none, none, none, none, none, none, none, none, none, none, none, none, none, none, none, none, none, none, none, none, none, none, none] [none, none, none, none, none, none, none, some 0, some 1, some 2, some 3, some 4, some 5, some 6, none, none, none, none, none, none, none, none, none, none, none, none, none, none, none, none, none, none, none, none, none, none, none, none, none, none, none, none, none, none, none, none, none, none, none, none, none, none, none, none, none, none, none, none, none, none, none, none, none, none, none, none, none, none, none, none, none, none, none, none, none, none, none, none, none, none, none, none, none, none, none, none, none, none, none, none, none, none, none, none, none, none, none, none, none, none, none, none, none, none, none, none, none, none, none, none] zyw_X_law zywE zyeE (by decide +kernel) (zt_X_law h) ⟨⟨_, rfl, fun _ => rfl⟩, ⟨_, rfl, fun _ => rfl⟩, ⟨_, rfl, fun _ => rfl⟩, ⟨_, rfl, fun _ => rfl⟩, ⟨_, rfl, fun _ => rfl⟩, ⟨_, rfl, fun (h : zv_is (.inr 1000)) => (Nat.lt_irrefl 1000 h).elim⟩, ⟨_, rfl, fun _ => rfl⟩, ⟨_, rfl, fun _ => rfl⟩, ⟨_, rfl, fun _ => rfl⟩, ⟨_, rfl, fun _ => rfl⟩, ⟨_, rfl, fun _ => rfl⟩, ⟨_, rfl, fun _ => rfl⟩, ⟨_, rfl, fun _ => rfl⟩, trivial⟩ ⟨rfl, rfl, rfl, rfl, rfl, rfl, rfl, trivial⟩ rfl rfl rfl rfl rfl rfl rfl
theorem zE_X_tale {f : Nat → Int} {g : Nat → Int → Int} {x1 : Int} {o : Int × Int × Int × Int × (Int → Int) × Nat × Nat} (h : zf_X_tale x1 (f 6) (f 21) (f 22) (g 7) (g 14) = some o) : zv_Fn z_TB z_cl z_KX zyE zxm76 (2, 120) [.inr 0, .inl x1] (zE_F f) (zE_G g) (some o.1) (zE_Fr 14 21 1000 (zv_rc [0, 11, 22, 12, 23, 24] o.2.2.2.2.2.1) (zv_rc [0, 11, 22, 12, 23, 24] o.2.2.2.2.2.2) 1000 1000 1000 1000 1000 1000 (zL_u [(6, o.2.1), (21, o.2.2.1), (22, o.2.2.2.1)] f)) (zE_G (zL_w [(14, o.2.2.2.2.1)] g)) := zv_emq (va2 := [.inr 0, .inl x1]) (F := zE_F f) (F' := zE_Fr 14 21 1000 (zv_rc [0, 11, 22, 12, 23, 24] o.2.2.2.2.2.1) (zv_rc [0, 11, 22, 12, 23, 24] o.2.2.2.2.2.2) 1000 1000 1000 1000 1000 1000 (zL_u [(6, o.2.1), (21, o.2.2.1), (22, o.2.2.2.1)] f)) (G := zE_G g) (G' := zE_G (zL_w [(14, o.2.2.2.2.1)] g)) (ρ := [0, 11, 22, 12, 23, 24]) (φ := [6, 19, 21, 22, 20]) (ψ := [7, 14]) [none, none, none, none, none, none, some 0, none, none, none, none, none, none, none, none, none, none, none, none, some 1, some 4, some 2, some 3, none, none, none, none, none, none, none, none, none, none, none, none, none, none, none, none, none, none, none, none, none, none, none, none, none, none, none, none, none, none, none, none, none, none, none, none, none, none, none, none, none, none, none, none, none, none, none, none, none, none, none, none, none, none, none, none, none, none, none, none, none, none, none, none, none, none, none, none, none, none, none, none, none, none, none, none] [none, none, none, none, none, none, none, some 0, none, none, none, none, none, none, some 1, none, none, none, none, none, none, none, none, none, none, none, none, none, none, none, none, none, none, none, none, none, none, none, none, none, none, none, none, none, none, none, none, none, none, none, none, none, none, none, none, none, none, none, none, none, none, none, none, none, none, none, none, none, none, none, none, none, none, none, none, none, none, none, none, none, none, none, none, none, none, none, none, none, none, none, none, none, none, none, none, none, none, none, none, none, none, none, none, none, none, none, none, none, none, none] zyw_X_tale zywE zyeE (by decide +kernel) (zt_X_tale h) ⟨⟨_, rfl, fun _ => rfl⟩, ⟨_, rfl, fun _ => rfl⟩, ⟨_, rfl, fun _ => rfl⟩, ⟨_, rfl, fun _ => rfl⟩, ⟨_, rfl, fun _ => rfl⟩, trivial⟩ ⟨rfl, rfl, trivial⟩ rfl rfl rfl rfl rfl rfl rfl
theorem zE_M_law {r0 r1 r3 r4 : Nat} {f : Nat → Int} {g : Nat → Int → Int} {x1 : Int} {o : Int × Int × Int × Int × Int × Int × Int × Int × Int × Int × Int × (Int → Int) × (Int → Int) × (Int → Int) × (Int → Int) × (Int → Int) × (Int → Int) × (Int → Int) × (Int → Int) × (Int → Int) × (Int → Int) × (Int → Int)} (h : zf_M_law x1 (f 74) (f 75) (f 76) (f 77) (f 78) (f 79) (f 80) (f 81) (f 82) (f 83) (g 68) (g 69) (g 70) (g 71) (g 72) (g 73) (g 74) (g 75) (g 76) (g 77) (g 78) (g 79) = some o) : zv_Fn z_TB z_cl z_KX zyE zxm215 (8, 480) [.inr 1, .inl x1] (zE_Fr r0 r1 1000 r3 r4 1000 1000 1000 1000 1000 1000 f) (zE_G g) (some o.1) (zE_Fr r0 r1 1000 r3 r4 1000 1000 1000 1000 1000 1000 (zL_u [(74, o.2.1), (75, o.2.2.1), (76, o.2.2.2.1), (77, o.2.2.2.2.1), (78, o.2.2.2.2.2.1), (79, o.2.2.2.2.2.2.1), (80, o.2.2.2.2.2.2.2.1), (81, o.2.2.2.2.2.2.2.2.1), (82, o.2.2.2.2.2.2.2.2.2.1), (83, o.2.2.2.2.2.2.2.2.2.2.1)] f)) (zE_G (zL_w [(69, o.2.2.2.2.2.2.2.2.2.2.2.1), (70, o.2.2.2.2.2.2.2.2.2.2.2.2.1), (71, o.2.2.2.2.2.2.2.2.2.2.2.2.2.1), (72, o.2.2.2.2.2.2.2.2.2.2.2.2.2.2.1), (73, o.2.2.2.2.2.2.2.2.2.2.2.2.2.2.2.1), (74, o.2.2.2.2.2.2.2.2.2.2.2.2.2.2.2.2.1), (75, o.2.2.2.2.2.2.2.2.2.2.2.2.2.2.2.2.2.1), (76, o.2.2.2.2.2.2.2.2.2.2.2.2.2.2.2.2.2.2.1), (77, o.2.2.2.2.2.2.2.2.2.2.2.2.2.2.2.2.2.2.2.1), (78, o.2.2.2.2.2.2.2.2.2.2.2.2.2.2.2.2.2.2.2.2.1), (79, o.2.2.2.2.2.2.2.2.2.2.2.2.2.2.2.2.2.2.2.2.2)] g)) := (zv_emq (va2 := [.inr 1, .inl x1]) (F := zE_Fr r0 r1 1000 r3 r4 1000 1000 1000 1000 1000 1000 f) (F' := (zE_Fr r0 r1 1000 r3 r4 1000 1000 1000 1000 1000 1000 (zL_u [(74, o.2.1), (75, o.2.2.1), (76, o.2.2.2.1), (77, o.2.2.2.2.1), (78, o.2.2.2.2.2.1), (79, o.2.2.2.2.2.2.1), (80, o.2.2.2.2.2.2.2.1), (81, o.2.2.2.2.2.2.2.2.1), (82, o.2.2.2.2.2.2.2.2.2.1), (83, o.2.2.2.2.2.2.2.2.2.2.1)] f))) (G := zE_G g) (G' := (zE_G (zL_w [(69, o.2.2.2.2.2.2.2.2.2.2.2.1), (70, o.2.2.2.2.2.2.2.2.2.2.2.2.1), (71, o.2.2.2.2.2.2.2.2.2.2.2.2.2.1), (72, o.2.2.2.2.2.2.2.2.2.2.2.2.2.2.1), (73, o.2.2.2.2.2.2.2.2.2.2.2.2.2.2.2.1), (74, o.2.2.2.2.2.2.2.2.2.2.2.2.2.2.2.2.1), (75, o.2.2.2.2.2.2.2.2.2.2.2.2.2.2.2.2.2.1), (76, o.2.2.2.2.2.2.2.2.2.2.2.2.2.2.2.2.2.2.1), (77, o.2.2.2.2.2.2.2.2.2.2.2.2.2.2.2.2.2.2.2.1), (78, o.2.2.2.2.2.2.2.2.2.2.2.2.2.2.2.2.2.2.2.2.1), (79, o.2.2.2.2.2.2.2.2.2.2.2.2.2.2.2.2.2.2.2.2.2)] g))) (ρ := [1, 87, 88, 89, 90, 91, 92, 93, 94, 95, 96, 97, 98]) (φ := [74, 75, 76, 77, 78, 79, 80, 81, 82, 83]) (ψ := [68, 69, 70, 71, 72, 73, 74, 75, 76, 77, 78, 79]) [none, none, none, none, none, none, none, none, none, none, none, none, none, none, none, none, none, none, none, none, none, none, none, none, none, none, none, none, none, none, none, none, none, none, none, none, none, none, none, none, none, none, none, none, none, none, none, none, none, none, none, none, none, none, none, none, none, none, none, none, none, none, none, none, none, none, none, none, none, none, none, none, none, none, some 0, some 1, some 2, some 3, some 4, some 5, some 6, some 7, some 8, some 9, none, none, none, none, none, none, none, none, none, none, none, none, none, none, none] [none, none, none, none, none, none, none, none, none, none, none, none, none, none, none, none, none, none, none, none, none, none, none, none, none, none, none, none, none, none, none, none, none, none, none, none, none, none, none, none, none, none, none, none, none, none, none, none, none, none, none, none, none, none, none, none, none, none, none, none, none, none, none, none, none, none, none, none, some 0, some 1, some 2, some 3, some 4, some 5, some 6, some 7, some 8, some 9, some 10, some 11, none, none, none, none, none, none, none, none, none, none, none, none, none, none, none, none, none, none, none, none, none, none, none, none, none, none, none, none, none, none] zyw_M_law zywE zyeE (by decide +kernel) (zt_M_law h) ⟨⟨_, rfl, fun _ => rfl⟩, ⟨_, rfl, fun _ => rfl⟩, ⟨_, rfl, fun _ => rfl⟩, ⟨_, rfl, fun _ => rfl⟩, ⟨_, rfl, fun _ => rfl⟩, ⟨_, rfl, fun _ => rfl⟩, ⟨_, rfl, fun _ => rfl⟩, ⟨_, rfl, fun _ => rfl⟩, ⟨_, rfl, fun _ => rfl⟩, ⟨_, rfl, fun _ => rfl⟩, trivial⟩ ⟨rfl, rfl, rfl, rfl, rfl, rfl, rfl, rfl, rfl, rfl, rfl, rfl, trivial⟩ rfl rfl rfl rfl rfl rfl rfl)
theorem zE_M_tale {r0 r1 r3 r4 : Nat} {f : Nat → Int} {g : Nat → Int → Int} {x1 : Int} {o : Int × Int × Int × Int × Int × Int × Int × Int × (Int → Int) × (Int → Int) × (Int → Int) × (Int → Int)} (h : zf_M_tale x1 (f 74) (f 75) (f 76) (f 87) (f 81) (f 88) (f 89) (g 68) (g 83) (g 84) (g 85) (g 86) = some o) : zv_Fn z_TB z_cl z_KX zyE zxm263 (3, 180) [.inr 1, .inl x1] (zE_Fr r0 r1 1000 r3 r4 1000 1000 1000 1000 1000 1000 f) (zE_G g) (some o.1) (zE_Fr r0 r1 1000 r3 r4 1000 1000 1000 1000 1000 1000 (zL_u [(74, o.2.1), (75, o.2.2.1), (76, o.2.2.2.1), (87, o.2.2.2.2.1), (81, o.2.2.2.2.2.1), (88, o.2.2.2.2.2.2.1), (89, o.2.2.2.2.2.2.2.1)] f)) (zE_G (zL_w [(83, o.2.2.2.2.2.2.2.2.1), (84, o.2.2.2.2.2.2.2.2.2.1), (85, o.2.2.2.2.2.2.2.2.2.2.1), (86, o.2.2.2.2.2.2.2.2.2.2.2)] g)) := (zv_emq (va2 := [.inr 1, .inl x1]) (F := zE_Fr r0 r1 1000 r3 r4 1000 1000 1000 1000 1000 1000 f) (F' := (zE_Fr r0 r1 1000 r3 r4 1000 1000 1000 1000 1000 1000 (zL_u [(74, o.2.1), (75, o.2.2.1), (76, o.2.2.2.1), (87, o.2.2.2.2.1), (81, o.2.2.2.2.2.1), (88, o.2.2.2.2.2.2.1), (89, o.2.2.2.2.2.2.2.1)] f))) (G := zE_G g) (G' := (zE_G (zL_w [(83, o.2.2.2.2.2.2.2.2.1), (84, o.2.2.2.2.2.2.2.2.2.1), (85, o.2.2.2.2.2.2.2.2.2.2.1), (86, o.2.2.2.2.2.2.2.2.2.2.2)] g))) (ρ := [1, 87, 102, 103, 104, 105]) (φ := [74, 75, 76, 87, 81, 88, 89]) (ψ := [68, 83, 84, 85, 86]) [none, none, none, none, none, none, none, none, none, none, none, none, none, none, none, none, none, none, none, none, none, none, none, none, none, none, none, none, none, none, none, none, none, none, none, none, none, none, none, none, none, none, none, none, none, none, none, none, none, none, none, none, none, none, none, none, none, none, none, none, none, none, none, none, none, none, none, none, none, none, none, none, none, none, some 0, some 1, some 2, none, none, none, none, some 4, none, none, none, none, none, some 3, some 5, some 6, none, none, none, none, none, none, none, none, none] [none, none, none, none, none, none, none, none, none, none, none, none, none, none, none, none, none, none, none, none, none, none, none, none, none, none, none, none, none, none, none, none, none, none, none, none, none, none, none, none, none, none, none, none, none, none, none, none, none, none, none, none, none, none, none, none, none, none, none, none, none, none, none, none, none, none, none, none, some 0, none, none, none, none, none, none, none, none, none, none, none, none, none, none, some 1, some 2, some 3, some 4, none, none, none, none, none, none, none, none, none, none, none, none, none, none, none, none, none, none, none, none, none, none, none] zyw_M_tale zywE zyeE (by decide +kernel) (zt_M_tale h) ⟨⟨_, rfl, fun _ => rfl⟩, ⟨_, rfl, fun _ => rfl⟩, ⟨_, rfl, fun _ => rfl⟩, ⟨_, rfl, fun _ => rfl⟩, ⟨_, rfl, fun _ => rfl⟩, ⟨_, rfl, fun _ => rfl⟩, ⟨_, rfl, fun _ => rfl⟩, trivial⟩ ⟨rfl, rfl, rfl, rfl, rfl, trivial⟩ rfl rfl rfl rfl rfl rfl rfl)
end
section
/-! law, tale: their cases; the switch; one call of the law. -/
theorem zc_law {good : Nat → List zNV → List zNV → List zNV → List (Int → Int) → Prop} {Lx : Nat} {xs : Nat → Int32} {i : Int} {f : Nat → Int} {g : Nat → Int → Int} (hL : Lx ≤ 3072) (hB : zw_B good) (hR : zw_R Lx xs good) (i0 : 0 ≤ i) (i6 : i + 6 ≤ Lx) (hI : zI f g) (k : ∀ f2 g2, zI f2 g2 → good 18 (zw_lc (i + 6)) [] (zE_F f2) (zE_G g2)) (k1 : ∀ f2 g2, zI (fun j => f2 (zv_rc zE_p1 j)) (fun j => g2 (zv_rc zE_q1 j)) → good 18 (zw_lc (i + 6)) [] (zE_Fr 21 14 1000 22 24 1000 1000 1000 1000 1000 1000 f2) (zE_G g2)) : good 567 (zw_lc i) [] (zE_F f) (zE_G g) := by
  obtain ⟨L, R⟩ := hI.law
  obtain ⟨X, Y, e1, e2, hr, hs, hs2, hc⟩ := yl_law (T := g 7) (M := g 68) hI.tape.2.2.2 (x := zw_a xs i 1) (s := f 6) (f2 := f 9) (f3 := f 10) (f4 := f 11) (f6 := f 13) (f7 := f 14) (f8 := f 15) (f9 := f 16) (f10 := f 17) (f11 := f 18) (g1 := g 8) (g2 := g 9) (g3 := g 10) (g4 := g 11) (g5 := g 12) (g6 := g 13) (m1 := f 75) (m2 := f 76) (m3 := f 77) (m4 := f 78) (m5 := f 79) (m6 := f 80) (m7 := f 81) (m8 := f 82) (m9 := f 83) (a1 := g 69) (a2 := g 70) (a3 := g 71) (a4 := g 72) (a5 := g 73) (a6 := g 74) (a7 := g 75) (a8 := g 76) (a9 := g 77) (a10 := g 78) (a11 := g 79)
  rw [← hI.tape.1] at e2
  rcases hc with ⟨c1, c2, c3, c4⟩ | ⟨c1, c2, L2, R2⟩
  · have hx := zE_X_law e1
    rw [c1, c2] at hx
    have R3 : yl_R L (g 20) (g 22) (f 32) (f 30) (f 35) (f 34) (f 36) (g 17) (g 44) (g 18) (g 19) Y.2.2.2.2.2.2.2.2.2.2.1 Y.2.2.2.2.2.2.2.2.2.2.2.2.2.2.2.2.2.1 Y.2.2.2.2.2.2.2.2.2.2.2.2.2.2.2.2.2.2.1 Y.2.2.2.2.2.2.2.2.2.2.2.2.2.2.2.2.2.2.2.1 Y.2.2.2.2.2.2.2.2.2.2.2.2.2.2.2.2.2.2.2.2.1 Y.2.2.2.2.2.2.2.2.2.2.2.2.2.2.2.2.2.2.2.2.2 := by rw [c3, c4]; exact R
    refine zv_ald (ins := .aload_n 1) (len := 1) hB (by decide +kernel) rfl rfl rfl ?_
    refine zw_arg (j := 1) hB hR i0 i6 hL (by decide +kernel) (by decide) (by decide) rfl ?_
    refine zv_cv (i := 55) (c := 0) (mm2 := zxm34) (rm2 := (81, 4860)) (va := [.inl (zw_a xs i 1)]) (S := []) hB (hx) (by decide +kernel) rfl rfl (by decide) (by decide) rfl ?_
    refine zv_ald (ins := .aload_n 2) (len := 1) hB (by decide +kernel) rfl rfl rfl ?_
    refine zw_arg (j := 1) hB hR i0 i6 hL (by decide +kernel) (by decide) (by decide) rfl ?_
    refine zv_cv (i := 59) (c := 1) (mm2 := zxm215) (rm2 := (8, 480)) (va := [.inl (zw_a xs i 1)]) (S := [.inl _]) hB (zE_M_law e2) (by decide +kernel) rfl rfl (by decide) (by decide) rfl ?_
    refine zv_ceq hB (off := 1008) (t := 1593) (by decide +kernel) rfl (fun _ => ?_) fun hne => absurd hr hne
    exact zw_tail hB i0 i6 hL (k _ _ ⟨⟨L, R3⟩, hI.sky, hI.sea, zI_size hI (c := X.2.1) rfl hs.symm hs2, hI.tale, hI.kept, hI.so, hI.le, hI.ln⟩)
  · have hx := zE_X_law e1
    rw [c1, c2] at hx
    refine zv_ald (ins := .aload_n 1) (len := 1) hB (by decide +kernel) rfl rfl rfl ?_
    refine zw_arg (j := 1) hB hR i0 i6 hL (by decide +kernel) (by decide) (by decide) rfl ?_
    refine zv_cv (i := 55) (c := 0) (mm2 := zxm34) (rm2 := (81, 4860)) (va := [.inl (zw_a xs i 1)]) (S := []) hB (hx) (by decide +kernel) rfl rfl (by decide) (by decide) rfl ?_
    refine zv_ald (ins := .aload_n 2) (len := 1) hB (by decide +kernel) rfl rfl rfl ?_
    refine zw_arg (j := 1) hB hR i0 i6 hL (by decide +kernel) (by decide) (by decide) rfl ?_
    refine zv_cv (i := 59) (c := 1) (mm2 := zxm215) (rm2 := (8, 480)) (va := [.inl (zw_a xs i 1)]) (S := [.inl _]) hB (zE_M_law e2) (by decide +kernel) rfl rfl (by decide) (by decide) rfl ?_
    refine zv_ceq hB (off := 1008) (t := 1593) (by decide +kernel) rfl (fun _ => ?_) fun hne => absurd hr hne
    exact zw_tail hB i0 i6 hL (k1 _ _ ⟨⟨L2, R2⟩, hI.sky, hI.sea, zI_size hI (c := X.2.1) rfl hs.symm hs2, hI.tale, hI.kept, hI.so, hI.le, hI.ln⟩)
theorem zc_tale {good : Nat → List zNV → List zNV → List zNV → List (Int → Int) → Prop} {Lx : Nat} {xs : Nat → Int32} {i : Int} {f : Nat → Int} {g : Nat → Int → Int} (hL : Lx ≤ 3072) (hB : zw_B good) (hR : zw_R Lx xs good) (i0 : 0 ≤ i) (i6 : i + 6 ≤ Lx) (hI : zI f g) (k : ∀ f2 g2, zI f2 g2 → good 18 (zw_lc (i + 6)) [] (zE_F f2) (zE_G g2)) (k1 : ∀ f2 g2, zI (fun j => f2 (zv_rc zE_p2 j)) (fun j => g2 (zv_rc zE_q2 j)) → good 18 (zw_lc (i + 6)) [] (zE_Fr 14 21 1000 24 22 1000 1000 1000 1000 1000 1000 f2) (zE_G g2)) : good 590 (zw_lc i) [] (zE_F f) (zE_G g) := by
  obtain ⟨L, R⟩ := hI.law
  obtain ⟨r, n', n2', a, b, c, ii, jj, p0', l0', nl', flt', tl', ni', s1', s2', fr', to', e1, e2, p', hc⟩ := yo_tale (x := zw_a xs i 1) (n := f 6) (n2 := f 74) (f2 := f 21) (f3 := f 22) (p0 := f 75) (l0 := f 76) (nl := f 87) (flt := f 81) (tl := f 88) (ni := f 89) (g1 := g 14) (s1 := g 83) (s2 := g 84) (fr := g 85) (to := g 86) hI.tape
  rcases hc with ⟨rfl, rfl, rfl, rfl, rfl, rfl⟩ | ⟨rfl, rfl, rfl, rfl, ht⟩
  · refine zv_ald (ins := .aload_n 1) (len := 1) hB (by decide +kernel) rfl rfl rfl ?_
    refine zw_arg (j := 1) hB hR i0 i6 hL (by decide +kernel) (by decide) (by decide) rfl ?_
    refine zv_cv (i := 60) (c := 0) (mm2 := zxm76) (rm2 := (2, 120)) (va := [.inl (zw_a xs i 1)]) (S := []) hB (zE_X_tale e1) (by decide +kernel) rfl rfl (by decide) (by decide) rfl ?_
    refine zv_pop hB (by decide +kernel) rfl ?_
    refine zv_ald (ins := .aload_n 2) (len := 1) hB (by decide +kernel) rfl rfl rfl ?_
    refine zw_arg (j := 1) hB hR i0 i6 hL (by decide +kernel) (by decide) (by decide) rfl ?_
    refine zv_cv (i := 63) (c := 1) (mm2 := zxm263) (rm2 := (3, 180)) (va := [.inl (zw_a xs i 1)]) (S := []) hB (zE_M_tale e2) (by decide +kernel) rfl rfl (by decide) (by decide) rfl ?_
    refine zv_pop hB (by decide +kernel) rfl ?_
    refine zv_goto hB (off := 983) (t := 1593) (by decide +kernel) rfl ?_
    exact zw_tail hB i0 i6 hL (k _ _ ⟨⟨L, R⟩, hI.sky, hI.sea, p', hI.tale, hI.kept, hI.so, hI.le, hI.ln⟩)
  · refine zv_ald (ins := .aload_n 1) (len := 1) hB (by decide +kernel) rfl rfl rfl ?_
    refine zw_arg (j := 1) hB hR i0 i6 hL (by decide +kernel) (by decide) (by decide) rfl ?_
    refine zv_cv (i := 60) (c := 0) (mm2 := zxm76) (rm2 := (2, 120)) (va := [.inl (zw_a xs i 1)]) (S := []) hB (zE_X_tale e1) (by decide +kernel) rfl rfl (by decide) (by decide) rfl ?_
    refine zv_pop hB (by decide +kernel) rfl ?_
    refine zv_ald (ins := .aload_n 2) (len := 1) hB (by decide +kernel) rfl rfl rfl ?_
    refine zw_arg (j := 1) hB hR i0 i6 hL (by decide +kernel) (by decide) (by decide) rfl ?_
    refine zv_cv (i := 63) (c := 1) (mm2 := zxm263) (rm2 := (3, 180)) (va := [.inl (zw_a xs i 1)]) (S := []) hB (zE_M_tale e2) (by decide +kernel) rfl rfl (by decide) (by decide) rfl ?_
    refine zv_pop hB (by decide +kernel) rfl ?_
    refine zv_goto hB (off := 983) (t := 1593) (by decide +kernel) rfl ?_
    exact zw_tail hB i0 i6 hL (k1 _ _ ⟨⟨L, R⟩, hI.sky, hI.sea, p', ⟨rfl, rfl, ht⟩, hI.kept, hI.so, hI.le, hI.ln⟩)
end
section
/-! The switch: one call of the law. -/
theorem zw_all {Lx : Nat} {xs : Nat → Int32} (hL : Lx ≤ 3072) : zw_body Lx xs zI := by
  intro good hB hR i f g hI i0 i6 k k1 k2
  refine zv_ald (ins := .aload_n 0) (len := 1) hB (by decide +kernel) rfl rfl rfl ?_
  refine zv_ild (ins := .iload_n 3) (len := 1) hB (by decide +kernel) rfl rfl ?_
  refine hR.2.1 _ _ _ _ _ _ (by decide +kernel) i0 (by omega) ?_
  refine zv_con (ins := .bipush 63) (len := 2) hB (by decide +kernel) rfl ?_
  refine zv_and hB (by decide +kernel) (by decide) fun v v0 v1 => ?_
  refine zv_tsw (dflt := 1560) (lo := 0) (hi := 38) (offs := #[171, 224, 267, 290, 313, 336, 369, 428, 471, 534, 557, 580, 613, 646, 699, 742, 785, 828, 851, 884, 907, 940, 973, 1006, 1075, 1098, 1111, 1154, 1217, 1280, 1323, 1366, 1399, 1432, 1465, 1488, 1501, 1514, 1537]) (len := 171) hB (by decide +kernel) rfl ?_
  refine ⟨fun _ => ⟨204, rfl, zc_star hL hB hR i0 i6 hI k⟩, fun _ => ?_⟩
  refine ⟨fun _ => ⟨257, rfl, zc_walk hL hB hR i0 i6 hI k⟩, fun _ => ?_⟩
  refine ⟨fun _ => ⟨300, rfl, zc_gone hL hB hR i0 i6 hI k⟩, fun _ => ?_⟩
  refine ⟨fun _ => ⟨323, rfl, zc_hour hL hB hR i0 i6 hI k⟩, fun _ => ?_⟩
  refine ⟨fun _ => ⟨346, rfl, zc_clouds hL hB hR i0 i6 hI k⟩, fun _ => ?_⟩
  refine ⟨fun _ => ⟨369, rfl, zc_sight hL hB hR i0 i6 hI k⟩, fun _ => ?_⟩
  refine ⟨fun _ => ⟨402, rfl, zc_land hL hB hR i0 i6 hI k⟩, fun _ => ?_⟩
  refine ⟨fun _ => ⟨461, rfl, zc_ship hL hB hR i0 i6 hI k⟩, fun _ => ?_⟩
  refine ⟨fun _ => ⟨504, rfl, zc_feed hL hB hR i0 i6 hI k⟩, fun _ => ?_⟩
  refine ⟨fun _ => ⟨567, rfl, zc_law hL hB hR i0 i6 hI k k1⟩, fun _ => ?_⟩
  refine ⟨fun _ => ⟨590, rfl, zc_tale hL hB hR i0 i6 hI k k2⟩, fun _ => ?_⟩
  refine ⟨fun _ => ⟨613, rfl, zc_starIs hL hB hR i0 i6 hI k⟩, fun _ => ?_⟩
  refine ⟨fun _ => ⟨646, rfl, zc_seen hL hB hR i0 i6 hI k⟩, fun _ => ?_⟩
  refine ⟨fun _ => ⟨679, rfl, zc_line hL hB hR i0 i6 hI k⟩, fun _ => ?_⟩
  refine ⟨fun _ => ⟨732, rfl, zc_sky hL hB hR i0 i6 hI k⟩, fun _ => ?_⟩
  refine ⟨fun _ => ⟨775, rfl, zc_figure hL hB hR i0 i6 hI k⟩, fun _ => ?_⟩
  refine ⟨fun _ => ⟨818, rfl, zc_matched hL hB hR i0 i6 hI k⟩, fun _ => ?_⟩
  refine ⟨fun _ => ⟨861, rfl, zc_where hL hB hR i0 i6 hI k⟩, fun _ => ?_⟩
  refine ⟨fun _ => ⟨884, rfl, zc_when hL hB hR i0 i6 hI k⟩, fun _ => ?_⟩
  refine ⟨fun _ => ⟨917, rfl, zc_alike hL hB hR i0 i6 hI k⟩, fun _ => ?_⟩
  refine ⟨fun _ => ⟨940, rfl, zc_known hL hB hR i0 i6 hI k⟩, fun _ => ?_⟩
  refine ⟨fun _ => ⟨973, rfl, zc_named hL hB hR i0 i6 hI k⟩, fun _ => ?_⟩
  refine ⟨fun _ => ⟨1006, rfl, zc_sold hL hB hR i0 i6 hI k⟩, fun _ => ?_⟩
  refine ⟨fun _ => ⟨1039, rfl, zc_steered hL hB hR i0 i6 hI k⟩, fun _ => ?_⟩
  refine ⟨fun _ => ⟨1108, rfl, zc_hours hL hB hR i0 i6 hI k⟩, fun _ => ?_⟩
  refine ⟨fun _ => ⟨1131, rfl, zc_found hL hB hR i0 i6 hI k⟩, fun _ => ?_⟩
  refine ⟨fun _ => ⟨1144, rfl, zc_meeting hL hB hR i0 i6 hI k⟩, fun _ => ?_⟩
  refine ⟨fun _ => ⟨1187, rfl, zc_fastest hL hB hR i0 i6 hI k⟩, fun _ => ?_⟩
  refine ⟨fun _ => ⟨1250, rfl, zc_byTwo hL hB hR i0 i6 hI k⟩, fun _ => ?_⟩
  refine ⟨fun _ => ⟨1313, rfl, zc_both hL hB hR i0 i6 hI k⟩, fun _ => ?_⟩
  refine ⟨fun _ => ⟨1356, rfl, zc_hidden hL hB hR i0 i6 hI k⟩, fun _ => ?_⟩
  refine ⟨fun _ => ⟨1399, rfl, zc_log hL hB hR i0 i6 hI k⟩, fun _ => ?_⟩
  refine ⟨fun _ => ⟨1432, rfl, zc_over hL hB hR i0 i6 hI k⟩, fun _ => ?_⟩
  refine ⟨fun _ => ⟨1465, rfl, zc_home hL hB hR i0 i6 hI k⟩, fun _ => ?_⟩
  refine ⟨fun _ => ⟨1498, rfl, zc_seed hL hB hR i0 i6 hI k⟩, fun _ => ?_⟩
  refine ⟨fun _ => ⟨1521, rfl, zc_keep hL hB hR i0 i6 hI k⟩, fun _ => ?_⟩
  refine ⟨fun _ => ⟨1534, rfl, zc_undo hL hB hR i0 i6 hI k⟩, fun _ => ?_⟩
  refine ⟨fun _ => ⟨1547, rfl, zc_check hL hB hR i0 i6 hI k⟩, fun _ => ?_⟩
  refine ⟨fun _ => ⟨1570, rfl, zc_count hL hB hR i0 i6 hI k⟩, fun _ => ?_⟩
  exact ⟨1593, rfl, zw_tail hB i0 i6 hL (k f g hI)⟩
end
