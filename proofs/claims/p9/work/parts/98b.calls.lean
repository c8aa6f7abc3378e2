/-! The calls of the law, case by case. -/
theorem zc_seen {good : Nat → List zNV → List zNV → List zNV → List (Int → Int) → Prop} {Lx : Nat} {xs : Nat → Int32} {i : Int} {f : Nat → Int} {g : Nat → Int → Int} (hL : Lx ≤ 3072) (hB : zw_B good) (hR : zw_R Lx xs good) (i0 : 0 ≤ i) (i6 : i + 6 ≤ Lx) (hI : zI f g) (k : ∀ f2 g2, zI f2 g2 → good 18 (zw_lc (i + 6)) [] (zE_F f2) (zE_G g2)) : good 646 (zw_lc i) [] (zE_F f) (zE_G g) := by
  obtain ⟨L, R⟩ := hI.law
  have tl := zI_tl hI
  obtain ⟨v0, v1, v2, v3, v4, v5, v6, v7, v8, v9, v10, v11, e1, e2⟩ := yo_seen (x := (zw_a xs i 1)) (y := (zw_a xs i 2)) (f3 := (f 25)) (f4 := (f 26)) (f5 := (f 27)) (h := (f 1)) (u := (f 28)) (f8 := (f 29)) (t := (f 0)) (sc := (f 3)) (sr := (f 4)) (cl := (f 2)) (tS := (f 30)) (f14 := (f 31)) (nc := (f 32)) (f16 := (f 33)) (sP := (f 34)) (g0 := (g 15)) (g1 := (g 16)) (co := (g 0)) (ro := (g 1)) (br := (g 2)) (kd := (g 17)) (hf := (g 18)) (to := (g 19)) (K := (g 20)) (g9 := (g 21)) (V := (g 22)) (mc := (f 83)) (m := (g 67)) (mk := (g 76)) (g2 := (g 80)) (mh := (g 78)) (mt := (g 79)) (C := (g 75)) (g6 := (g 81)) R hI.sky
  refine zv_ald (ins := .aload_n 1) (len := 1) hB (by decide +kernel) rfl rfl rfl ?_
  refine zw_arg (j := 1) hB hR i0 i6 hL (by decide +kernel) (by decide) (by decide) rfl ?_
  refine zw_arg (j := 2) hB hR i0 i6 hL (by decide +kernel) (by decide) (by decide) rfl ?_
  refine zv_cv (i := 69) (c := 0) (mm2 := zxm83) (rm2 := (5, 300)) (va := [.inl (zw_a xs i 1), .inl (zw_a xs i 2)]) (S := []) hB (zE_up (by rfl) (by rfl) (by rfl) (by rfl) (by rfl) (zo_X_seen e1)) (by decide +kernel) rfl rfl (by decide) (by decide) rfl ?_
  refine zv_pop hB (by decide +kernel) rfl ?_
  refine zv_ald (ins := .aload_n 2) (len := 1) hB (by decide +kernel) rfl rfl rfl ?_
  refine zw_arg (j := 1) hB hR i0 i6 hL (by decide +kernel) (by decide) (by decide) rfl ?_
  refine zw_arg (j := 2) hB hR i0 i6 hL (by decide +kernel) (by decide) (by decide) rfl ?_
  refine zv_cv (i := 72) (c := 1) (mm2 := zxm239) (rm2 := (5, 300)) (va := [.inl (zw_a xs i 1), .inl (zw_a xs i 2)]) (S := []) hB (zE_up (by rfl) (by rfl) (by rfl) (by rfl) (by rfl) (zo_M_seen e2)) (by decide +kernel) rfl rfl (by decide) (by decide) rfl ?_
  refine zv_pop hB (by decide +kernel) rfl ?_
  refine zv_goto hB (off := 917) (t := 1593) (by decide +kernel) rfl ?_
  exact zw_tail hB i0 i6 hL (k _ _ ⟨hI.law, hI.sky, hI.sea, hI.tape, hI.tale, hI.kept, hI.so, hI.le, hI.ln⟩)
theorem zc_line {good : Nat → List zNV → List zNV → List zNV → List (Int → Int) → Prop} {Lx : Nat} {xs : Nat → Int32} {i : Int} {f : Nat → Int} {g : Nat → Int → Int} (hL : Lx ≤ 3072) (hB : zw_B good) (hR : zw_R Lx xs good) (i0 : 0 ≤ i) (i6 : i + 6 ≤ Lx) (hI : zI f g) (k : ∀ f2 g2, zI f2 g2 → good 18 (zw_lc (i + 6)) [] (zE_F f2) (zE_G g2)) : good 679 (zw_lc i) [] (zE_F f) (zE_G g) := by
  obtain ⟨L, R⟩ := hI.law
  have tl := zI_tl hI
  obtain ⟨v0, v1, v2, v3, v4, v5, v6, v7, v8, v9, v10, v11, v12, v13, v14, v15, e1, e2⟩ := yo_line (x := (zw_a xs i 1)) (y := (zw_a xs i 2)) (a := (zw_a xs i 3)) (b := (zw_a xs i 4)) (t := (f 0)) (f4 := (f 25)) (f5 := (f 26)) (f6 := (f 27)) (h := (f 1)) (u := (f 28)) (f9 := (f 29)) (sc := (f 3)) (sr := (f 4)) (cl := (f 2)) (tS := (f 30)) (f14 := (f 31)) (nc := (f 32)) (f16 := (f 33)) (sP := (f 34)) (tL := (f 35)) (lP := (f 36)) (g0 := (g 15)) (g1 := (g 16)) (co := (g 0)) (ro := (g 1)) (br := (g 2)) (kd := (g 17)) (hf := (g 18)) (to := (g 19)) (K := (g 20)) (g9 := (g 21)) (V := (g 22)) (g11 := (g 23)) (g12 := (g 24)) (mc := (f 83)) (f1 := (f 84)) (m := (g 67)) (mk := (g 76)) (g2 := (g 80)) (mh := (g 78)) (mt := (g 79)) (C := (g 75)) (g6 := (g 81)) (g7 := (g 82)) R hI.sky
  refine zv_ald (ins := .aload_n 1) (len := 1) hB (by decide +kernel) rfl rfl rfl ?_
  refine zw_arg (j := 1) hB hR i0 i6 hL (by decide +kernel) (by decide) (by decide) rfl ?_
  refine zw_arg (j := 2) hB hR i0 i6 hL (by decide +kernel) (by decide) (by decide) rfl ?_
  refine zw_arg (j := 3) hB hR i0 i6 hL (by decide +kernel) (by decide) (by decide) rfl ?_
  refine zw_arg (j := 4) hB hR i0 i6 hL (by decide +kernel) (by decide) (by decide) rfl ?_
  refine zv_cv (i := 73) (c := 0) (mm2 := zxm95) (rm2 := (6, 360)) (va := [.inl (zw_a xs i 1), .inl (zw_a xs i 2), .inl (zw_a xs i 3), .inl (zw_a xs i 4)]) (S := []) hB (zE_up (by rfl) (by rfl) (by rfl) (by rfl) (by rfl) (zo_X_line e1)) (by decide +kernel) rfl rfl (by decide) (by decide) rfl ?_
  refine zv_pop hB (by decide +kernel) rfl ?_
  refine zv_ald (ins := .aload_n 2) (len := 1) hB (by decide +kernel) rfl rfl rfl ?_
  refine zw_arg (j := 1) hB hR i0 i6 hL (by decide +kernel) (by decide) (by decide) rfl ?_
  refine zw_arg (j := 2) hB hR i0 i6 hL (by decide +kernel) (by decide) (by decide) rfl ?_
  refine zw_arg (j := 3) hB hR i0 i6 hL (by decide +kernel) (by decide) (by decide) rfl ?_
  refine zw_arg (j := 4) hB hR i0 i6 hL (by decide +kernel) (by decide) (by decide) rfl ?_
  refine zv_cv (i := 77) (c := 1) (mm2 := zxm251) (rm2 := (6, 360)) (va := [.inl (zw_a xs i 1), .inl (zw_a xs i 2), .inl (zw_a xs i 3), .inl (zw_a xs i 4)]) (S := []) hB (zE_up (by rfl) (by rfl) (by rfl) (by rfl) (by rfl) (zo_M_line e2)) (by decide +kernel) rfl rfl (by decide) (by decide) rfl ?_
  refine zv_pop hB (by decide +kernel) rfl ?_
  refine zv_goto hB (off := 864) (t := 1593) (by decide +kernel) rfl ?_
  exact zw_tail hB i0 i6 hL (k _ _ ⟨hI.law, hI.sky, hI.sea, hI.tape, hI.tale, hI.kept, hI.so, hI.le, hI.ln⟩)
theorem zc_sky {good : Nat → List zNV → List zNV → List zNV → List (Int → Int) → Prop} {Lx : Nat} {xs : Nat → Int32} {i : Int} {f : Nat → Int} {g : Nat → Int → Int} (hL : Lx ≤ 3072) (hB : zw_B good) (hR : zw_R Lx xs good) (i0 : 0 ≤ i) (i6 : i + 6 ≤ Lx) (hI : zI f g) (k : ∀ f2 g2, zI f2 g2 → good 18 (zw_lc (i + 6)) [] (zE_F f2) (zE_G g2)) : good 732 (zw_lc i) [] (zE_F f) (zE_G g) := by
  obtain ⟨L, R⟩ := hI.law
  have tl := zI_tl hI
  obtain ⟨v0, v1, v2, v3, v4, v5, v6, v7, v8, v9, v10, v11, v12, v13, v14, v15, v16, v17, e1, e2⟩ := yo_sky (x := (zw_a xs i 1)) (y := (zw_a xs i 2)) (a := (zw_a xs i 3)) (f3 := (f 25)) (f4 := (f 26)) (f5 := (f 27)) (h := (f 1)) (u := (f 28)) (f8 := (f 29)) (t := (f 0)) (sc := (f 3)) (sr := (f 4)) (cl := (f 2)) (tS := (f 30)) (f14 := (f 31)) (nc := (f 32)) (f16 := (f 33)) (sP := (f 34)) (tL := (f 35)) (lP := (f 36)) (g0 := (g 15)) (g1 := (g 16)) (co := (g 0)) (ro := (g 1)) (br := (g 2)) (kd := (g 17)) (hf := (g 18)) (to := (g 19)) (K := (g 20)) (g9 := (g 21)) (V := (g 22)) (g11 := (g 23)) (g12 := (g 24)) (mc := (f 83)) (f1 := (f 84)) (f2 := (f 85)) (f33 := (f 86)) (m := (g 67)) (mk := (g 76)) (g2 := (g 80)) (mh := (g 78)) (mt := (g 79)) (C := (g 75)) (g6 := (g 81)) (g7 := (g 82)) R hI.sky
  refine zv_ald (ins := .aload_n 1) (len := 1) hB (by decide +kernel) rfl rfl rfl ?_
  refine zw_arg (j := 1) hB hR i0 i6 hL (by decide +kernel) (by decide) (by decide) rfl ?_
  refine zw_arg (j := 2) hB hR i0 i6 hL (by decide +kernel) (by decide) (by decide) rfl ?_
  refine zw_arg (j := 3) hB hR i0 i6 hL (by decide +kernel) (by decide) (by decide) rfl ?_
  refine zv_cv (i := 78) (c := 0) (mm2 := zxm100) (rm2 := (6, 360)) (va := [.inl (zw_a xs i 1), .inl (zw_a xs i 2), .inl (zw_a xs i 3)]) (S := []) hB (zE_up (by rfl) (by rfl) (by rfl) (by rfl) (by rfl) (zo_X_sky e1)) (by decide +kernel) rfl rfl (by decide) (by decide) rfl ?_
  refine zv_pop hB (by decide +kernel) rfl ?_
  refine zv_ald (ins := .aload_n 2) (len := 1) hB (by decide +kernel) rfl rfl rfl ?_
  refine zw_arg (j := 1) hB hR i0 i6 hL (by decide +kernel) (by decide) (by decide) rfl ?_
  refine zw_arg (j := 2) hB hR i0 i6 hL (by decide +kernel) (by decide) (by decide) rfl ?_
  refine zw_arg (j := 3) hB hR i0 i6 hL (by decide +kernel) (by decide) (by decide) rfl ?_
  refine zv_cv (i := 82) (c := 1) (mm2 := zxm254) (rm2 := (6, 360)) (va := [.inl (zw_a xs i 1), .inl (zw_a xs i 2), .inl (zw_a xs i 3)]) (S := []) hB (zE_up (by rfl) (by rfl) (by rfl) (by rfl) (by rfl) (zo_M_sky e2)) (by decide +kernel) rfl rfl (by decide) (by decide) rfl ?_
  refine zv_pop hB (by decide +kernel) rfl ?_
  refine zv_goto hB (off := 821) (t := 1593) (by decide +kernel) rfl ?_
  exact zw_tail hB i0 i6 hL (k _ _ ⟨hI.law, hI.sky, hI.sea, hI.tape, hI.tale, hI.kept, hI.so, hI.le, hI.ln⟩)
theorem zc_figure {good : Nat → List zNV → List zNV → List zNV → List (Int → Int) → Prop} {Lx : Nat} {xs : Nat → Int32} {i : Int} {f : Nat → Int} {g : Nat → Int → Int} (hL : Lx ≤ 3072) (hB : zw_B good) (hR : zw_R Lx xs good) (i0 : 0 ≤ i) (i6 : i + 6 ≤ Lx) (hI : zI f g) (k : ∀ f2 g2, zI f2 g2 → good 18 (zw_lc (i + 6)) [] (zE_F f2) (zE_G g2)) : good 775 (zw_lc i) [] (zE_F f) (zE_G g) := by
  obtain ⟨L, R⟩ := hI.law
  have tl := zI_tl hI
  obtain ⟨v0, v1, v2, v3, v4, v5, v6, v7, v8, v9, v10, v11, v12, v13, v14, v15, e1, e2⟩ := yo_figure (x := (zw_a xs i 1)) (y := (zw_a xs i 2)) (a := (zw_a xs i 3)) (t := (f 0)) (f4 := (f 25)) (f5 := (f 26)) (f6 := (f 27)) (h := (f 1)) (u := (f 28)) (f9 := (f 29)) (sc := (f 3)) (sr := (f 4)) (cl := (f 2)) (tS := (f 30)) (f14 := (f 31)) (nc := (f 32)) (f16 := (f 33)) (sP := (f 34)) (tL := (f 35)) (lP := (f 36)) (g0 := (g 15)) (g1 := (g 16)) (co := (g 0)) (ro := (g 1)) (br := (g 2)) (kd := (g 17)) (hf := (g 18)) (to := (g 19)) (K := (g 20)) (g9 := (g 21)) (V := (g 22)) (g11 := (g 23)) (g12 := (g 24)) (mc := (f 83)) (f1 := (f 84)) (m := (g 67)) (mk := (g 76)) (g2 := (g 80)) (mh := (g 78)) (mt := (g 79)) (C := (g 75)) (g6 := (g 81)) (g7 := (g 82)) R hI.sky
  refine zv_ald (ins := .aload_n 1) (len := 1) hB (by decide +kernel) rfl rfl rfl ?_
  refine zw_arg (j := 1) hB hR i0 i6 hL (by decide +kernel) (by decide) (by decide) rfl ?_
  refine zw_arg (j := 2) hB hR i0 i6 hL (by decide +kernel) (by decide) (by decide) rfl ?_
  refine zw_arg (j := 3) hB hR i0 i6 hL (by decide +kernel) (by decide) (by decide) rfl ?_
  refine zv_cv (i := 83) (c := 0) (mm2 := zxm110) (rm2 := (6, 360)) (va := [.inl (zw_a xs i 1), .inl (zw_a xs i 2), .inl (zw_a xs i 3)]) (S := []) hB (zE_up (by rfl) (by rfl) (by rfl) (by rfl) (by rfl) (zo_X_figure e1)) (by decide +kernel) rfl rfl (by decide) (by decide) rfl ?_
  refine zv_pop hB (by decide +kernel) rfl ?_
  refine zv_ald (ins := .aload_n 2) (len := 1) hB (by decide +kernel) rfl rfl rfl ?_
  refine zw_arg (j := 1) hB hR i0 i6 hL (by decide +kernel) (by decide) (by decide) rfl ?_
  refine zw_arg (j := 2) hB hR i0 i6 hL (by decide +kernel) (by decide) (by decide) rfl ?_
  refine zw_arg (j := 3) hB hR i0 i6 hL (by decide +kernel) (by decide) (by decide) rfl ?_
  refine zv_cv (i := 86) (c := 1) (mm2 := zxm262) (rm2 := (6, 360)) (va := [.inl (zw_a xs i 1), .inl (zw_a xs i 2), .inl (zw_a xs i 3)]) (S := []) hB (zE_up (by rfl) (by rfl) (by rfl) (by rfl) (by rfl) (zo_M_figure e2)) (by decide +kernel) rfl rfl (by decide) (by decide) rfl ?_
  refine zv_pop hB (by decide +kernel) rfl ?_
  refine zv_goto hB (off := 778) (t := 1593) (by decide +kernel) rfl ?_
  exact zw_tail hB i0 i6 hL (k _ _ ⟨hI.law, hI.sky, hI.sea, hI.tape, hI.tale, hI.kept, hI.so, hI.le, hI.ln⟩)
theorem zc_matched {good : Nat → List zNV → List zNV → List zNV → List (Int → Int) → Prop} {Lx : Nat} {xs : Nat → Int32} {i : Int} {f : Nat → Int} {g : Nat → Int → Int} (hL : Lx ≤ 3072) (hB : zw_B good) (hR : zw_R Lx xs good) (i0 : 0 ≤ i) (i6 : i + 6 ≤ Lx) (hI : zI f g) (k : ∀ f2 g2, zI f2 g2 → good 18 (zw_lc (i + 6)) [] (zE_F f2) (zE_G g2)) : good 818 (zw_lc i) [] (zE_F f) (zE_G g) := by
  obtain ⟨L, R⟩ := hI.law
  have tl := zI_tl hI
  obtain ⟨o1, e1, h1⟩ := yw_matchedX (x := (zw_a xs i 1)) (y := (zw_a xs i 2)) (w := (zw_a xs i 3)) (n := (f 37)) (f5 := (f 25)) (f6 := (f 26)) (f7 := (f 27)) (h := (f 1)) (u := (f 28)) (f10 := (f 29)) (t := (f 0)) (sc := (f 3)) (sr := (f 4)) (cl := (f 2)) (tS := (f 30)) (f16 := (f 31)) (nc := (f 32)) (f18 := (f 33)) (sP := (f 34)) (tL := (f 35)) (lP := (f 36)) (f22 := (f 38)) (f25 := (f 41)) (g0 := (g 15)) (g1 := (g 16)) (co := (g 0)) (ro := (g 1)) (br := (g 2)) (kd := (g 17)) (hf := (g 18)) (to := (g 19)) (K := (g 20)) (g9 := (g 21)) (V := (g 22)) (g11 := (g 23)) (g12 := (g 24)) (g13 := (g 25)) (g14 := (g 26)) (g15 := (g 27)) (g16 := (g 28)) R hI.sky hI.so
  obtain ⟨o2, e2, h2⟩ := yw_matchedM (x := (zw_a xs i 1)) (y := (zw_a xs i 2)) (w := (zw_a xs i 3)) (n := (f 88)) (mc := (f 83)) (f2 := (f 84)) (ni := (f 89)) (f4 := (f 90)) (m := (g 67)) (mk := (g 76)) (g2 := (g 80)) (mh := (g 78)) (mt := (g 79)) (C := (g 75)) (g6 := (g 81)) (g7 := (g 82)) (g8 := (g 87)) (g9 := (g 88)) (tf := (g 85)) (tt := (g 86)) (g12 := (g 89)) R hI.sky tl
  refine zv_ald (ins := .aload_n 1) (len := 1) hB (by decide +kernel) rfl rfl rfl ?_
  refine zw_arg (j := 1) hB hR i0 i6 hL (by decide +kernel) (by decide) (by decide) rfl ?_
  refine zw_arg (j := 2) hB hR i0 i6 hL (by decide +kernel) (by decide) (by decide) rfl ?_
  refine zw_arg (j := 3) hB hR i0 i6 hL (by decide +kernel) (by decide) (by decide) rfl ?_
  refine zv_cv (i := 87) (c := 0) (mm2 := zxm111) (rm2 := (14, 840)) (va := [.inl (zw_a xs i 1), .inl (zw_a xs i 2), .inl (zw_a xs i 3)]) (S := []) hB (zE_up (by rfl) (by rfl) (by rfl) (by rfl) (by rfl) (zo_X_matched e1)) (by decide +kernel) rfl rfl (by decide) (by decide) rfl ?_
  refine zv_pop hB (by decide +kernel) rfl ?_
  refine zv_ald (ins := .aload_n 2) (len := 1) hB (by decide +kernel) rfl rfl rfl ?_
  refine zw_arg (j := 1) hB hR i0 i6 hL (by decide +kernel) (by decide) (by decide) rfl ?_
  refine zw_arg (j := 2) hB hR i0 i6 hL (by decide +kernel) (by decide) (by decide) rfl ?_
  refine zw_arg (j := 3) hB hR i0 i6 hL (by decide +kernel) (by decide) (by decide) rfl ?_
  refine zv_cv (i := 90) (c := 1) (mm2 := zxm267) (rm2 := (6, 360)) (va := [.inl (zw_a xs i 1), .inl (zw_a xs i 2), .inl (zw_a xs i 3)]) (S := []) hB (zE_up (by rfl) (by rfl) (by rfl) (by rfl) (by rfl) (zo_M_matched e2)) (by decide +kernel) rfl rfl (by decide) (by decide) rfl ?_
  refine zv_pop hB (by decide +kernel) rfl ?_
  refine zv_goto hB (off := 735) (t := 1593) (by decide +kernel) rfl ?_
  exact zw_tail hB i0 i6 hL (k _ _ ⟨hI.law, hI.sky, hI.sea, hI.tape, hI.tale, hI.kept, h1, hI.le, hI.ln⟩)
theorem zc_where {good : Nat → List zNV → List zNV → List zNV → List (Int → Int) → Prop} {Lx : Nat} {xs : Nat → Int32} {i : Int} {f : Nat → Int} {g : Nat → Int → Int} (hL : Lx ≤ 3072) (hB : zw_B good) (hR : zw_R Lx xs good) (i0 : 0 ≤ i) (i6 : i + 6 ≤ Lx) (hI : zI f g) (k : ∀ f2 g2, zI f2 g2 → good 18 (zw_lc (i + 6)) [] (zE_F f2) (zE_G g2)) : good 861 (zw_lc i) [] (zE_F f) (zE_G g) := by
  obtain ⟨L, R⟩ := hI.law
  have tl := zI_tl hI
  obtain ⟨o1, e1, h1⟩ := yw_whereX (w := (zw_a xs i 1)) (n := (f 37)) (f5 := (f 25)) (f6 := (f 26)) (f7 := (f 27)) (h := (f 1)) (u := (f 28)) (f10 := (f 29)) (t := (f 0)) (sc := (f 3)) (sr := (f 4)) (cl := (f 2)) (tS := (f 30)) (f16 := (f 31)) (nc := (f 32)) (f18 := (f 33)) (sP := (f 34)) (f20 := (f 38)) (tL := (f 35)) (lP := (f 36)) (f25 := (f 41)) (g0 := (g 15)) (g1 := (g 16)) (co := (g 0)) (ro := (g 1)) (br := (g 2)) (kd := (g 17)) (hf := (g 18)) (to := (g 19)) (K := (g 20)) (g9 := (g 21)) (V := (g 22)) (g11 := (g 23)) (g12 := (g 24)) (g13 := (g 25)) (g14 := (g 26)) (g15 := (g 27)) (g16 := (g 28)) R hI.sky hI.so
  obtain ⟨o2, e2, h2⟩ := yw_whereM (w := (zw_a xs i 1)) (n := (f 88)) (mc := (f 83)) (f2 := (f 84)) (f3 := (f 90)) (ni := (f 89)) (m := (g 67)) (mk := (g 76)) (g2 := (g 80)) (mh := (g 78)) (mt := (g 79)) (C := (g 75)) (g6 := (g 81)) (g7 := (g 82)) (g8 := (g 87)) (g9 := (g 88)) (tf := (g 85)) (tt := (g 86)) (g12 := (g 89)) R hI.sky tl
  refine zv_ald (ins := .aload_n 1) (len := 1) hB (by decide +kernel) rfl rfl rfl ?_
  refine zw_arg (j := 1) hB hR i0 i6 hL (by decide +kernel) (by decide) (by decide) rfl ?_
  refine zv_cv (i := 91) (c := 0) (mm2 := zxm122) (rm2 := (14, 840)) (va := [.inl (zw_a xs i 1)]) (S := []) hB (zE_up (by rfl) (by rfl) (by rfl) (by rfl) (by rfl) (zo_X_where e1)) (by decide +kernel) rfl rfl (by decide) (by decide) rfl ?_
  refine zv_pop hB (by decide +kernel) rfl ?_
  refine zv_ald (ins := .aload_n 2) (len := 1) hB (by decide +kernel) rfl rfl rfl ?_
  refine zw_arg (j := 1) hB hR i0 i6 hL (by decide +kernel) (by decide) (by decide) rfl ?_
  refine zv_cv (i := 94) (c := 1) (mm2 := zxm271) (rm2 := (7, 420)) (va := [.inl (zw_a xs i 1)]) (S := []) hB (zE_up (by rfl) (by rfl) (by rfl) (by rfl) (by rfl) (zo_M_where e2)) (by decide +kernel) rfl rfl (by decide) (by decide) rfl ?_
  refine zv_pop hB (by decide +kernel) rfl ?_
  refine zv_goto hB (off := 712) (t := 1593) (by decide +kernel) rfl ?_
  exact zw_tail hB i0 i6 hL (k _ _ ⟨hI.law, hI.sky, hI.sea, hI.tape, hI.tale, hI.kept, h1, hI.le, hI.ln⟩)
theorem zc_when {good : Nat → List zNV → List zNV → List zNV → List (Int → Int) → Prop} {Lx : Nat} {xs : Nat → Int32} {i : Int} {f : Nat → Int} {g : Nat → Int → Int} (hL : Lx ≤ 3072) (hB : zw_B good) (hR : zw_R Lx xs good) (i0 : 0 ≤ i) (i6 : i + 6 ≤ Lx) (hI : zI f g) (k : ∀ f2 g2, zI f2 g2 → good 18 (zw_lc (i + 6)) [] (zE_F f2) (zE_G g2)) : good 884 (zw_lc i) [] (zE_F f) (zE_G g) := by
  obtain ⟨L, R⟩ := hI.law
  have tl := zI_tl hI
  obtain ⟨o1, e1, h1⟩ := yw_whenX (x := (zw_a xs i 1)) (y := (zw_a xs i 2)) (n := (f 37)) (t := (f 0)) (f3 := (f 42)) (h := (f 1)) (f5 := (f 43)) (u := (f 28)) (f7 := (f 44)) (cl := (f 2)) (f9 := (f 45)) (sc := (f 3)) (f11 := (f 46)) (sr := (f 4)) (f13 := (f 47)) (ch := (f 48)) (f15 := (f 49)) (f19 := (f 25)) (f20 := (f 26)) (f21 := (f 27)) (f22 := (f 29)) (tS := (f 30)) (f24 := (f 31)) (nc := (f 32)) (f26 := (f 33)) (sP := (f 34)) (f28 := (f 38)) (tL := (f 35)) (lP := (f 36)) (f33 := (f 41)) (co := (g 0)) (g1 := (g 29)) (ro := (g 1)) (g3 := (g 30)) (br := (g 2)) (g5 := (g 31)) (wc := (g 3)) (g7 := (g 32)) (wr := (g 4)) (g9 := (g 33)) (g10 := (g 15)) (g11 := (g 16)) (kd := (g 17)) (hf := (g 18)) (to := (g 19)) (K := (g 20)) (g16 := (g 21)) (V := (g 22)) (g18 := (g 23)) (g19 := (g 24)) (g20 := (g 25)) (g21 := (g 26)) (g22 := (g 27)) (g23 := (g 28)) R hI.sky hI.so
  obtain ⟨o2, e2, h2⟩ := yw_whenM (x := (zw_a xs i 1)) (y := (zw_a xs i 2)) (n := (f 88)) (mc := (f 83)) (f2 := (f 84)) (f3 := (f 90)) (ni := (f 89)) (m := (g 67)) (mk := (g 76)) (g2 := (g 80)) (mh := (g 78)) (mt := (g 79)) (C := (g 75)) (g6 := (g 81)) (g7 := (g 82)) (g8 := (g 87)) (g9 := (g 88)) (tf := (g 85)) (tt := (g 86)) (g12 := (g 89)) R hI.sky tl
  refine zv_ald (ins := .aload_n 1) (len := 1) hB (by decide +kernel) rfl rfl rfl ?_
  refine zw_arg (j := 1) hB hR i0 i6 hL (by decide +kernel) (by decide) (by decide) rfl ?_
  refine zw_arg (j := 2) hB hR i0 i6 hL (by decide +kernel) (by decide) (by decide) rfl ?_
  refine zv_cv (i := 95) (c := 0) (mm2 := zxm124) (rm2 := (14, 840)) (va := [.inl (zw_a xs i 1), .inl (zw_a xs i 2)]) (S := []) hB (zE_up (by rfl) (by rfl) (by rfl) (by rfl) (by rfl) (zo_X_when e1)) (by decide +kernel) rfl rfl (by decide) (by decide) rfl ?_
  refine zv_pop hB (by decide +kernel) rfl ?_
  refine zv_ald (ins := .aload_n 2) (len := 1) hB (by decide +kernel) rfl rfl rfl ?_
  refine zw_arg (j := 1) hB hR i0 i6 hL (by decide +kernel) (by decide) (by decide) rfl ?_
  refine zw_arg (j := 2) hB hR i0 i6 hL (by decide +kernel) (by decide) (by decide) rfl ?_
  refine zv_cv (i := 98) (c := 1) (mm2 := zxm273) (rm2 := (7, 420)) (va := [.inl (zw_a xs i 1), .inl (zw_a xs i 2)]) (S := []) hB (zE_up (by rfl) (by rfl) (by rfl) (by rfl) (by rfl) (zo_M_when e2)) (by decide +kernel) rfl rfl (by decide) (by decide) rfl ?_
  refine zv_pop hB (by decide +kernel) rfl ?_
  refine zv_goto hB (off := 679) (t := 1593) (by decide +kernel) rfl ?_
  exact zw_tail hB i0 i6 hL (k _ _ ⟨hI.law, zI_sky hI fun j _ _ => h2 j, zI_sea hI fun j _ _ => h2 j, hI.tape, hI.tale, hI.kept, h1, hI.le, hI.ln⟩)
theorem zc_alike {good : Nat → List zNV → List zNV → List zNV → List (Int → Int) → Prop} {Lx : Nat} {xs : Nat → Int32} {i : Int} {f : Nat → Int} {g : Nat → Int → Int} (hL : Lx ≤ 3072) (hB : zw_B good) (hR : zw_R Lx xs good) (i0 : 0 ≤ i) (i6 : i + 6 ≤ Lx) (hI : zI f g) (k : ∀ f2 g2, zI f2 g2 → good 18 (zw_lc (i + 6)) [] (zE_F f2) (zE_G g2)) : good 917 (zw_lc i) [] (zE_F f) (zE_G g) := by
  obtain ⟨L, R⟩ := hI.law
  have tl := zI_tl hI
  obtain ⟨o1, e1, h1⟩ := yw_alikeX (w := (zw_a xs i 1)) (f3 := (f 25)) (f4 := (f 26)) (f5 := (f 27)) (h := (f 1)) (u := (f 28)) (f8 := (f 29)) (t := (f 0)) (sc := (f 3)) (sr := (f 4)) (cl := (f 2)) (tS := (f 30)) (f14 := (f 31)) (nc := (f 32)) (f16 := (f 33)) (sP := (f 34)) (g0 := (g 15)) (g1 := (g 16)) (co := (g 0)) (ro := (g 1)) (br := (g 2)) (kd := (g 17)) (hf := (g 18)) (to := (g 19)) (K := (g 20)) (g9 := (g 21)) (V := (g 22)) (g11 := (g 34)) (g12 := (g 35)) (g13 := (g 36)) (g14 := (g 37)) R hI.sky
  obtain ⟨o2, e2, h2⟩ := yw_alikeM (w := (zw_a xs i 1)) (mc := (f 83)) (m := (g 67)) (mk := (g 76)) (g2 := (g 80)) (mh := (g 78)) (mt := (g 79)) (C := (g 75)) (g6 := (g 81)) (g7 := (g 90)) (g8 := (g 91)) (g9 := (g 92)) R hI.sky
  refine zv_ald (ins := .aload_n 1) (len := 1) hB (by decide +kernel) rfl rfl rfl ?_
  refine zw_arg (j := 1) hB hR i0 i6 hL (by decide +kernel) (by decide) (by decide) rfl ?_
  refine zv_cv (i := 99) (c := 0) (mm2 := zxm126) (rm2 := (6, 360)) (va := [.inl (zw_a xs i 1)]) (S := []) hB (zE_up (by rfl) (by rfl) (by rfl) (by rfl) (by rfl) (zo_X_alike e1)) (by decide +kernel) rfl rfl (by decide) (by decide) rfl ?_
  refine zv_pop hB (by decide +kernel) rfl ?_
  refine zv_ald (ins := .aload_n 2) (len := 1) hB (by decide +kernel) rfl rfl rfl ?_
  refine zw_arg (j := 1) hB hR i0 i6 hL (by decide +kernel) (by decide) (by decide) rfl ?_
  refine zv_cv (i := 102) (c := 1) (mm2 := zxm274) (rm2 := (7, 420)) (va := [.inl (zw_a xs i 1)]) (S := []) hB (zE_up (by rfl) (by rfl) (by rfl) (by rfl) (by rfl) (zo_M_alike e2)) (by decide +kernel) rfl rfl (by decide) (by decide) rfl ?_
  refine zv_pop hB (by decide +kernel) rfl ?_
  refine zv_goto hB (off := 656) (t := 1593) (by decide +kernel) rfl ?_
  exact zw_tail hB i0 i6 hL (k _ _ ⟨hI.law, hI.sky, hI.sea, hI.tape, hI.tale, hI.kept, hI.so, hI.le, hI.ln⟩)
theorem zc_known {good : Nat → List zNV → List zNV → List zNV → List (Int → Int) → Prop} {Lx : Nat} {xs : Nat → Int32} {i : Int} {f : Nat → Int} {g : Nat → Int → Int} (hL : Lx ≤ 3072) (hB : zw_B good) (hR : zw_R Lx xs good) (i0 : 0 ≤ i) (i6 : i + 6 ≤ Lx) (hI : zI f g) (k : ∀ f2 g2, zI f2 g2 → good 18 (zw_lc (i + 6)) [] (zE_F f2) (zE_G g2)) : good 940 (zw_lc i) [] (zE_F f) (zE_G g) := by
  obtain ⟨L, R⟩ := hI.law
  have tl := zI_tl hI
  obtain ⟨o1, e1, h1⟩ := yw_knownX (a := (zw_a xs i 1)) (w := (zw_a xs i 2)) (n := (f 6)) (f4 := (f 25)) (f5 := (f 50)) (f6 := (f 26)) (f7 := (f 27)) (h := (f 1)) (u := (f 28)) (f10 := (f 29)) (t := (f 0)) (sc := (f 3)) (sr := (f 4)) (cl := (f 2)) (tS := (f 30)) (f16 := (f 31)) (nc := (f 32)) (f18 := (f 33)) (sP := (f 34)) (g0 := (g 15)) (g1 := (g 38)) (T := (g 7)) (g3 := (g 16)) (co := (g 0)) (ro := (g 1)) (br := (g 2)) (kd := (g 17)) (hf := (g 18)) (to := (g 19)) (K := (g 20)) (g11 := (g 21)) (V := (g 22)) (g13 := (g 36)) R hI.sky hI.tape.2.1 hI.tape.2.2.1
  obtain ⟨o2, e2, h2⟩ := yw_knownM (a := (zw_a xs i 1)) (w := (zw_a xs i 2)) (n := (f 74)) (mc := (f 83)) (M := (g 68)) (g1 := (g 93)) (m := (g 67)) (mk := (g 76)) (g4 := (g 80)) (mh := (g 78)) (mt := (g 79)) (C := (g 75)) (g8 := (g 81)) (g9 := (g 90)) (g10 := (g 91)) (g11 := (g 92)) R hI.sky (by rw [hI.tape.1]; exact hI.tape.2.1) (by rw [hI.tape.1]; exact hI.tape.2.2.1)
  refine zv_ald (ins := .aload_n 1) (len := 1) hB (by decide +kernel) rfl rfl rfl ?_
  refine zw_arg (j := 1) hB hR i0 i6 hL (by decide +kernel) (by decide) (by decide) rfl ?_
  refine zw_arg (j := 2) hB hR i0 i6 hL (by decide +kernel) (by decide) (by decide) rfl ?_
  refine zv_cv (i := 103) (c := 0) (mm2 := zxm136) (rm2 := (5, 300)) (va := [.inl (zw_a xs i 1), .inl (zw_a xs i 2)]) (S := []) hB (zE_up (by rfl) (by rfl) (by rfl) (by rfl) (by rfl) (zo_X_known e1)) (by decide +kernel) rfl rfl (by decide) (by decide) rfl ?_
  refine zv_pop hB (by decide +kernel) rfl ?_
  refine zv_ald (ins := .aload_n 2) (len := 1) hB (by decide +kernel) rfl rfl rfl ?_
  refine zw_arg (j := 1) hB hR i0 i6 hL (by decide +kernel) (by decide) (by decide) rfl ?_
  refine zw_arg (j := 2) hB hR i0 i6 hL (by decide +kernel) (by decide) (by decide) rfl ?_
  refine zv_cv (i := 106) (c := 1) (mm2 := zxm281) (rm2 := (7, 420)) (va := [.inl (zw_a xs i 1), .inl (zw_a xs i 2)]) (S := []) hB (zE_up (by rfl) (by rfl) (by rfl) (by rfl) (by rfl) (zo_M_known e2)) (by decide +kernel) rfl rfl (by decide) (by decide) rfl ?_
  refine zv_pop hB (by decide +kernel) rfl ?_
  refine zv_goto hB (off := 623) (t := 1593) (by decide +kernel) rfl ?_
  exact zw_tail hB i0 i6 hL (k _ _ ⟨hI.law, hI.sky, hI.sea, zI_size hI h1 (h2.trans (by rw [hI.tape.1])) (by split; exact .inl rfl; split; exact .inl rfl; split; exact .inl rfl; exact .inr rfl), hI.tale, hI.kept, hI.so, hI.le, hI.ln⟩)
theorem zc_named {good : Nat → List zNV → List zNV → List zNV → List (Int → Int) → Prop} {Lx : Nat} {xs : Nat → Int32} {i : Int} {f : Nat → Int} {g : Nat → Int → Int} (hL : Lx ≤ 3072) (hB : zw_B good) (hR : zw_R Lx xs good) (i0 : 0 ≤ i) (i6 : i + 6 ≤ Lx) (hI : zI f g) (k : ∀ f2 g2, zI f2 g2 → good 18 (zw_lc (i + 6)) [] (zE_F f2) (zE_G g2)) : good 973 (zw_lc i) [] (zE_F f) (zE_G g) := by
  obtain ⟨L, R⟩ := hI.law
  have tl := zI_tl hI
  obtain ⟨o1, e1, h1⟩ := yw_namedX (a := (zw_a xs i 1)) (w := (zw_a xs i 2)) (n := (f 6)) (f4 := (f 25)) (f5 := (f 26)) (f6 := (f 27)) (h := (f 1)) (u := (f 28)) (f9 := (f 29)) (t := (f 0)) (sc := (f 3)) (sr := (f 4)) (cl := (f 2)) (tS := (f 30)) (f15 := (f 31)) (nc := (f 32)) (f17 := (f 33)) (sP := (f 34)) (g0 := (g 15)) (T := (g 7)) (g2 := (g 16)) (co := (g 0)) (ro := (g 1)) (br := (g 2)) (kd := (g 17)) (hf := (g 18)) (to := (g 19)) (K := (g 20)) (g10 := (g 21)) (V := (g 22)) (g12 := (g 39)) (g13 := (g 40)) (g14 := (g 41)) R hI.sky hI.tape.2.2.2
  obtain ⟨o2, e2, h2⟩ := yw_namedM (a := (zw_a xs i 1)) (w := (zw_a xs i 2)) (n := (f 74)) (f1 := (f 91)) (mc := (f 83)) (M := (g 68)) (g1 := (g 94)) (g2 := (g 95)) (m := (g 67)) (mk := (g 76)) (g5 := (g 80)) (mh := (g 78)) (mt := (g 79)) (C := (g 75)) (g9 := (g 81)) R hI.sky hI.tape.2.2.2
  refine zv_ald (ins := .aload_n 1) (len := 1) hB (by decide +kernel) rfl rfl rfl ?_
  refine zw_arg (j := 1) hB hR i0 i6 hL (by decide +kernel) (by decide) (by decide) rfl ?_
  refine zw_arg (j := 2) hB hR i0 i6 hL (by decide +kernel) (by decide) (by decide) rfl ?_
  refine zv_cv (i := 107) (c := 0) (mm2 := zxm140) (rm2 := (11, 660)) (va := [.inl (zw_a xs i 1), .inl (zw_a xs i 2)]) (S := []) hB (zE_up (by rfl) (by rfl) (by rfl) (by rfl) (by rfl) (zo_X_named e1)) (by decide +kernel) rfl rfl (by decide) (by decide) rfl ?_
  refine zv_pop hB (by decide +kernel) rfl ?_
  refine zv_ald (ins := .aload_n 2) (len := 1) hB (by decide +kernel) rfl rfl rfl ?_
  refine zw_arg (j := 1) hB hR i0 i6 hL (by decide +kernel) (by decide) (by decide) rfl ?_
  refine zw_arg (j := 2) hB hR i0 i6 hL (by decide +kernel) (by decide) (by decide) rfl ?_
  refine zv_cv (i := 110) (c := 1) (mm2 := zxm283) (rm2 := (5, 300)) (va := [.inl (zw_a xs i 1), .inl (zw_a xs i 2)]) (S := []) hB (zE_up (by rfl) (by rfl) (by rfl) (by rfl) (by rfl) (zo_M_named e2)) (by decide +kernel) rfl rfl (by decide) (by decide) rfl ?_
  refine zv_pop hB (by decide +kernel) rfl ?_
  refine zv_goto hB (off := 590) (t := 1593) (by decide +kernel) rfl ?_
  exact zw_tail hB i0 i6 hL (k _ _ ⟨hI.law, hI.sky, hI.sea, zI_size hI h1 (h2.trans (by rw [hI.tape.1])) (by split; exact .inl rfl; split; exact .inl rfl; split; exact .inl rfl; exact .inr rfl), hI.tale, hI.kept, hI.so, hI.le, hI.ln⟩)
