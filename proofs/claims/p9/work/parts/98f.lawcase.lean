/-! law, tale: their cases; the switch; one call of the law. -/
theorem zc_law {good : Nat → List zNV → List zNV → List zNV → List (Int → Int) → Prop} {Lx : Nat} {xs : Nat → Int32} {i : Int} {f : Nat → Int} {g : Nat → Int → Int} (hL : Lx ≤ 3072) (hB : zw_B good) (hR : zw_R Lx xs good) (i0 : 0 ≤ i) (i6 : i + 6 ≤ Lx) (hI : zI f g) (k : ∀ f2 g2, zI f2 g2 → good 18 (zw_lc (i + 6)) [] (zE_F f2) (zE_G g2)) (k1 : ∀ f2 g2, zI (fun j => f2 (zv_rc zE_p1 j)) (fun j => g2 (zv_rc zE_q1 j)) → good 18 (zw_lc (i + 6)) [] (zE_Fr 21 14 1000 22 24 1000 1000 1000 1000 1000 1000 f2) (zE_G g2)) : good 567 (zw_lc i) [] (zE_F f) (zE_G g) := by
  obtain ⟨L, R⟩ := hI.law
  obtain ⟨X, Y, e1, e2, hr, hs, hs2, hc⟩ := yl_law (T := g 7) (M := g 68) hI.tape.2.2.2 (x := zw_a xs i 1) (s := f 6) (f2 := f 9) (f3 := f 10) (f4 := f 11) (f6 := f 13) (f7 := f 14) (f8 := f 15) (f9 := f 16) (f10 := f 17) (f11 := f 18) (g1 := g 8) (g2 := g 9) (g3 := g 10) (g4 := g 11) (g5 := g 12) (g6 := g 13) (m1 := f 75) (m2 := f 76) (m3 := f 77) (m4 := f 78) (m5 := f 79) (m6 := f 80) (m7 := f 81) (m8 := f 82) (m9 := f 83) (a1 := g 69) (a2 := g 70) (a3 := g 71) (a4 := g 72) (a5 := g 73) (a6 := g 74) (a7 := g 75) (a8 := g 76) (a9 := g 77) (a10 := g 78) (a11 := g 79)
  rw [← hI.tape.1] at e2
  rcases hc with ⟨c1, c2, c3, c4⟩ | ⟨c1, c2, L2, R2⟩
  · have hx := zE_X_law e1
    rw [c1, c2] at hx
    have R3 : yl_R L (g 20) (g 22) (f 32) (f 30) (f 35) (f 34) (f 36) (g 17) (g 44) (g 18) (g 19) Y.2.2.2.2.2.2.2.2.2.2.1 Y.2.2.2.2.2.2.2.2.2.2.2.2.2.2.2.2.2.1 Y.2.2.2.2.2.2.2.2.2.2.2.2.2.2.2.2.2.2.1 Y.2.2.2.2.2.2.2.2.2.2.2.2.2.2.2.2.2.2.2.1 Y.2.2.2.2.2.2.2.2.2.2.2.2.2.2.2.2.2.2.2.2.1 Y.2.2.2.2.2.2.2.2.2.2.2.2.2.2.2.2.2.2.2.2.2 := by rw [c3, c4]; exact R
    refine zv_ald (ins := .aload_n 1) (len := 1) hB (by decide +kernel) rfl rfl rfl ?_
    refine zw_arg (j := 1) hB hR i0 i6 hL (by decide +kernel) (by decide) (by decide) rfl ?_
    refine zv_cv (i := 55) (c := 0) (mm2 := zxm34) (rm2 := (81, 4860)) (va := [.inl (zw_a xs i 1)]) (S := []) hB (hx) (by decide +kernel) rfl rfl (by decide) (by decide) rfl ?_
    refine zv_pop hB (by decide +kernel) rfl ?_
    refine zv_ald (ins := .aload_n 2) (len := 1) hB (by decide +kernel) rfl rfl rfl ?_
    refine zw_arg (j := 1) hB hR i0 i6 hL (by decide +kernel) (by decide) (by decide) rfl ?_
    refine zv_cv (i := 59) (c := 1) (mm2 := zxm215) (rm2 := (8, 480)) (va := [.inl (zw_a xs i 1)]) (S := []) hB (zE_M_law e2) (by decide +kernel) rfl rfl (by decide) (by decide) rfl ?_
    refine zv_pop hB (by decide +kernel) rfl ?_
    refine zv_goto hB (off := 1006) (t := 1593) (by decide +kernel) rfl ?_
    exact zw_tail hB i0 i6 hL (k _ _ ⟨⟨L, R3⟩, hI.sky, hI.sea, zI_size hI (c := X.2.1) rfl hs.symm hs2, hI.tale, hI.kept, hI.so, hI.le, hI.ln⟩)
  · have hx := zE_X_law e1
    rw [c1, c2] at hx
    refine zv_ald (ins := .aload_n 1) (len := 1) hB (by decide +kernel) rfl rfl rfl ?_
    refine zw_arg (j := 1) hB hR i0 i6 hL (by decide +kernel) (by decide) (by decide) rfl ?_
    refine zv_cv (i := 55) (c := 0) (mm2 := zxm34) (rm2 := (81, 4860)) (va := [.inl (zw_a xs i 1)]) (S := []) hB (hx) (by decide +kernel) rfl rfl (by decide) (by decide) rfl ?_
    refine zv_pop hB (by decide +kernel) rfl ?_
    refine zv_ald (ins := .aload_n 2) (len := 1) hB (by decide +kernel) rfl rfl rfl ?_
    refine zw_arg (j := 1) hB hR i0 i6 hL (by decide +kernel) (by decide) (by decide) rfl ?_
    refine zv_cv (i := 59) (c := 1) (mm2 := zxm215) (rm2 := (8, 480)) (va := [.inl (zw_a xs i 1)]) (S := []) hB (zE_M_law e2) (by decide +kernel) rfl rfl (by decide) (by decide) rfl ?_
    refine zv_pop hB (by decide +kernel) rfl ?_
    refine zv_goto hB (off := 1006) (t := 1593) (by decide +kernel) rfl ?_
    exact zw_tail hB i0 i6 hL (k1 _ _ ⟨⟨L2, R2⟩, hI.sky, hI.sea, zI_size hI (c := X.2.1) rfl hs.symm hs2, hI.tale, hI.kept, hI.so, hI.le, hI.ln⟩)
theorem zc_tale {good : Nat → List zNV → List zNV → List zNV → List (Int → Int) → Prop} {Lx : Nat} {xs : Nat → Int32} {i : Int} {f : Nat → Int} {g : Nat → Int → Int} (hL : Lx ≤ 3072) (hB : zw_B good) (hR : zw_R Lx xs good) (i0 : 0 ≤ i) (i6 : i + 6 ≤ Lx) (hI : zI f g) (k : ∀ f2 g2, zI f2 g2 → good 18 (zw_lc (i + 6)) [] (zE_F f2) (zE_G g2)) (k1 : ∀ f2 g2, zI (fun j => f2 (zv_rc zE_p2 j)) (fun j => g2 (zv_rc zE_q2 j)) → good 18 (zw_lc (i + 6)) [] (zE_Fr 14 21 1000 24 22 1000 1000 1000 1000 1000 1000 f2) (zE_G g2)) : good 590 (zw_lc i) [] (zE_F f) (zE_G g) := by
  obtain ⟨L, R⟩ := hI.law
  obtain ⟨r, n', n2', a, b, c, ii, jj, p0', l0', nl', flt', tl', ni', s1', s2', fr', to', e1, e2, p', hc⟩ := yo_tale (x := zw_a xs i 1) (n := f 6) (n2 := f 74) (f2 := f 21) (f3 := f 22) (p0 := f 75) (l0 := f 76) (nl := f 87) (flt := f 81) (tl := f 88) (ni := f 89) (g1 := g 14) (s1 := g 83) (s2 := g 84) (fr := g 85) (to := g 86) hI.tape
  rcases hc with ⟨rfl, rfl, rfl, rfl, rfl, rfl⟩ | ⟨rfl, rfl, rfl, rfl, ht⟩
  · refine zv_ald (ins := .aload_n 1) (len := 1) hB (by decide +kernel) rfl rfl rfl ?_
    refine zw_arg (j := 1) hB hR i0 i6 hL (by decide +kernel) (by decide) (by decide) rfl ?_
    refine zv_cv (i := 60) (c := 0) (mm2 := zxm76) (rm2 := (2, 120)) (va := [.inl (zw_a xs i 1)]) (S := []) hB (zE_X_tale e1) (by decide +kernel) rfl rfl (by decide) (by decide) rfl ?_
    refine zv_pop hB (by decide +kernel) rfl ?_
    refine zv_ald (ins := .aload_n 2) (len := 1) hB (by decide +kernel) rfl rfl rfl ?_
    refine zw_arg (j := 1) hB hR i0 i6 hL (by decide +kernel) (by decide) (by decide) rfl ?_
    refine zv_cv (i := 63) (c := 1) (mm2 := zxm263) (rm2 := (3, 180)) (va := [.inl (zw_a xs i 1)]) (S := []) hB (zE_M_tale e2) (by decide +kernel) rfl rfl (by decide) (by decide) rfl ?_
    refine zv_pop hB (by decide +kernel) rfl ?_
    refine zv_goto hB (off := 983) (t := 1593) (by decide +kernel) rfl ?_
    exact zw_tail hB i0 i6 hL (k _ _ ⟨⟨L, R⟩, hI.sky, hI.sea, p', hI.tale, hI.kept, hI.so, hI.le, hI.ln⟩)
  · refine zv_ald (ins := .aload_n 1) (len := 1) hB (by decide +kernel) rfl rfl rfl ?_
    refine zw_arg (j := 1) hB hR i0 i6 hL (by decide +kernel) (by decide) (by decide) rfl ?_
    refine zv_cv (i := 60) (c := 0) (mm2 := zxm76) (rm2 := (2, 120)) (va := [.inl (zw_a xs i 1)]) (S := []) hB (zE_X_tale e1) (by decide +kernel) rfl rfl (by decide) (by decide) rfl ?_
    refine zv_pop hB (by decide +kernel) rfl ?_
    refine zv_ald (ins := .aload_n 2) (len := 1) hB (by decide +kernel) rfl rfl rfl ?_
    refine zw_arg (j := 1) hB hR i0 i6 hL (by decide +kernel) (by decide) (by decide) rfl ?_
    refine zv_cv (i := 63) (c := 1) (mm2 := zxm263) (rm2 := (3, 180)) (va := [.inl (zw_a xs i 1)]) (S := []) hB (zE_M_tale e2) (by decide +kernel) rfl rfl (by decide) (by decide) rfl ?_
    refine zv_pop hB (by decide +kernel) rfl ?_
    refine zv_goto hB (off := 983) (t := 1593) (by decide +kernel) rfl ?_
    exact zw_tail hB i0 i6 hL (k1 _ _ ⟨⟨L, R⟩, hI.sky, hI.sea, p', ⟨rfl, rfl, ht⟩, hI.kept, hI.so, hI.le, hI.ln⟩)
