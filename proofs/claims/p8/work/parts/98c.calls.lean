/-! The calls of the law, case by case. -/
theorem zc_sold {good : Nat → List zNV → List zNV → List zNV → List (Int → Int) → Prop} {Lx : Nat} {xs : Nat → Int32} {i : Int} {f : Nat → Int} {g : Nat → Int → Int} (hL : Lx ≤ 3072) (hB : zw_B good) (hR : zw_R Lx xs good) (i0 : 0 ≤ i) (i6 : i + 6 ≤ Lx) (hI : zI f g) (k : ∀ f2 g2, zI f2 g2 → good 18 (zw_lc (i + 6)) [] (zE_F f2) (zE_G g2)) : good 1006 (zw_lc i) [] (zE_F f) (zE_G g) := by
  obtain ⟨L, R⟩ := hI.law
  have tl := zI_tl hI
  obtain ⟨v0, v1, v2, v3, v4, v5, v6, v7, v8, v9, v10, v11, v12, e1, e2⟩ := yo_sold (a := (zw_a xs i 1)) (b := (zw_a xs i 2)) (h := (f 1)) (u := (f 28)) (t := (f 0)) (nc := (f 32)) (f5 := (f 33)) (g0 := (g 16)) (g1 := (g 42)) (g2 := (g 43)) (br := (g 2)) (ro := (g 1)) (co := (g 0)) (kd := (g 17)) (hf := (g 18)) (to := (g 19)) (K := (g 20)) (g10 := (g 21)) (V := (g 22)) (fr := (g 44)) (g13 := (g 45)) (g14 := (g 46)) (mc := (f 83)) (q0 := (g 80)) (m := (g 67)) (q2 := (g 96)) (q3 := (g 97)) (mk := (g 76)) (mh := (g 78)) (mt := (g 79)) (C := (g 75)) (q8 := (g 81)) (mf := (g 77)) (q10 := (g 98)) R hI.sky
  refine zv_ald (ins := .aload_n 1) (len := 1) hB (by decide +kernel) rfl rfl rfl ?_
  refine zw_arg (j := 1) hB hR i0 i6 hL (by decide +kernel) (by decide) (by decide) rfl ?_
  refine zw_arg (j := 2) hB hR i0 i6 hL (by decide +kernel) (by decide) (by decide) rfl ?_
  refine zv_cv (i := 111) (c := 0) (mm2 := zxm144) (rm2 := (4, 240)) (va := [.inl (zw_a xs i 1), .inl (zw_a xs i 2)]) (S := []) hB (zE_up (by rfl) (by rfl) (by rfl) (by rfl) (by rfl) (zo_X_sold e1)) (by decide +kernel) rfl rfl (by decide) (by decide) rfl ?_
  refine zv_pop hB (by decide +kernel) rfl ?_
  refine zv_ald (ins := .aload_n 2) (len := 1) hB (by decide +kernel) rfl rfl rfl ?_
  refine zw_arg (j := 1) hB hR i0 i6 hL (by decide +kernel) (by decide) (by decide) rfl ?_
  refine zw_arg (j := 2) hB hR i0 i6 hL (by decide +kernel) (by decide) (by decide) rfl ?_
  refine zv_cv (i := 114) (c := 1) (mm2 := zxm287) (rm2 := (3, 180)) (va := [.inl (zw_a xs i 1), .inl (zw_a xs i 2)]) (S := []) hB (zE_up (by rfl) (by rfl) (by rfl) (by rfl) (by rfl) (zo_M_sold e2)) (by decide +kernel) rfl rfl (by decide) (by decide) rfl ?_
  refine zv_pop hB (by decide +kernel) rfl ?_
  refine zv_goto hB (off := 557) (t := 1593) (by decide +kernel) rfl ?_
  exact zw_tail hB i0 i6 hL (k _ _ ⟨hI.law, hI.sky, hI.sea, hI.tape, hI.tale, hI.kept, hI.so, hI.le, hI.ln⟩)
theorem zc_steered {good : Nat → List zNV → List zNV → List zNV → List (Int → Int) → Prop} {Lx : Nat} {xs : Nat → Int32} {i : Int} {f : Nat → Int} {g : Nat → Int → Int} (hL : Lx ≤ 3072) (hB : zw_B good) (hR : zw_R Lx xs good) (i0 : 0 ≤ i) (i6 : i + 6 ≤ Lx) (hI : zI f g) (k : ∀ f2 g2, zI f2 g2 → good 18 (zw_lc (i + 6)) [] (zE_F f2) (zE_G g2)) : good 1039 (zw_lc i) [] (zE_F f) (zE_G g) := by
  obtain ⟨L, R⟩ := hI.law
  have tl := zI_tl hI
  obtain ⟨v0, v1, v2, v3, v4, v5, v6, v7, v8, v9, v10, v11, v12, v13, v14, v15, v16, v17, v18, e1, e2, k', z'⟩ := yo_steered (s := (zw_a xs i 1)) (i := (zw_a xs i 2)) (N := (zw_a xs i 3)) (dr := (if zw_a xs i 4 = 0 then 0 else 1)) (ts := (f 5)) (t := (f 0)) (f5 := (f 25)) (f6 := (f 26)) (f7 := (f 27)) (h := (f 1)) (u := (f 28)) (sc := (f 3)) (sr := (f 4)) (cl := (f 2)) (tS := (f 30)) (f14 := (f 31)) (nc := (f 32)) (f16 := (f 33)) (sP := (f 34)) (ch := (f 48)) (gp := (g 5)) (g1 := (g 15)) (g2 := (g 16)) (co := (g 0)) (ro := (g 1)) (br := (g 2)) (kd := (g 17)) (hf := (g 18)) (to := (g 19)) (K := (g 20)) (g10 := (g 21)) (V := (g 22)) (gl := (g 6)) (wc := (g 3)) (wr := (g 4)) (fr := (g 44)) (mc := (f 83)) (m := (g 67)) (mk := (g 76)) (S2 := (g 80)) (mh := (g 78)) (mt := (g 79)) (C := (g 75)) (mS := (g 81)) (mf := (g 77)) (f8 := 0) (f9 := 0) R hI.sky hI.sea
  refine zv_ald (ins := .aload_n 1) (len := 1) hB (by decide +kernel) rfl rfl rfl ?_
  refine zw_arg (j := 1) hB hR i0 i6 hL (by decide +kernel) (by decide) (by decide) rfl ?_
  refine zw_arg (j := 2) hB hR i0 i6 hL (by decide +kernel) (by decide) (by decide) rfl ?_
  refine zw_arg (j := 3) hB hR i0 i6 hL (by decide +kernel) (by decide) (by decide) rfl ?_
  refine zw_arg (j := 4) hB hR i0 i6 hL (by decide +kernel) (by decide) (by decide) rfl ?_
  refine zw_bool (pc := 1060) hB (by decide +kernel) (by decide +kernel) (by decide +kernel) (by decide +kernel) rfl rfl ?_
  refine zv_cv (i := 115) (c := 0) (mm2 := zxm151) (rm2 := (5, 300)) (va := [.inl (zw_a xs i 1), .inl (zw_a xs i 2), .inl (zw_a xs i 3), .inl (if zw_a xs i 4 = 0 then 0 else 1)]) (S := []) hB (zE_up (by rfl) (by rfl) (by rfl) (by rfl) (by rfl) (zo_X_steered e1)) (by decide +kernel) rfl rfl (by decide) (by decide) rfl ?_
  refine zv_pop hB (by decide +kernel) rfl ?_
  refine zv_ald (ins := .aload_n 2) (len := 1) hB (by decide +kernel) rfl rfl rfl ?_
  refine zw_arg (j := 1) hB hR i0 i6 hL (by decide +kernel) (by decide) (by decide) rfl ?_
  refine zw_arg (j := 2) hB hR i0 i6 hL (by decide +kernel) (by decide) (by decide) rfl ?_
  refine zw_arg (j := 3) hB hR i0 i6 hL (by decide +kernel) (by decide) (by decide) rfl ?_
  refine zw_arg (j := 4) hB hR i0 i6 hL (by decide +kernel) (by decide) (by decide) rfl ?_
  refine zw_bool (pc := 1093) hB (by decide +kernel) (by decide +kernel) (by decide +kernel) (by decide +kernel) rfl rfl ?_
  refine zv_cv (i := 119) (c := 1) (mm2 := zxm289) (rm2 := (6, 360)) (va := [.inl (zw_a xs i 1), .inl (zw_a xs i 2), .inl (zw_a xs i 3), .inl (if zw_a xs i 4 = 0 then 0 else 1)]) (S := []) hB (zE_up (by rfl) (by rfl) (by rfl) (by rfl) (by rfl) (zo_M_steered e2)) (by decide +kernel) rfl rfl (by decide) (by decide) rfl ?_
  refine zv_pop hB (by decide +kernel) rfl ?_
  refine zv_goto hB (off := 488) (t := 1593) (by decide +kernel) rfl ?_
  exact zw_tail hB i0 i6 hL (k _ _ ⟨hI.law, k', z', hI.tape, hI.tale, hI.kept, hI.so, hI.le, hI.ln⟩)
theorem zc_hours {good : Nat → List zNV → List zNV → List zNV → List (Int → Int) → Prop} {Lx : Nat} {xs : Nat → Int32} {i : Int} {f : Nat → Int} {g : Nat → Int → Int} (hL : Lx ≤ 3072) (hB : zw_B good) (hR : zw_R Lx xs good) (i0 : 0 ≤ i) (i6 : i + 6 ≤ Lx) (hI : zI f g) (k : ∀ f2 g2, zI f2 g2 → good 18 (zw_lc (i + 6)) [] (zE_F f2) (zE_G g2)) : good 1108 (zw_lc i) [] (zE_F f) (zE_G g) := by
  obtain ⟨L, R⟩ := hI.law
  have tl := zI_tl hI
  obtain ⟨v0, v1, v2, v3, v4, v5, e1, e2, k', fr⟩ := yo_hours (N := (zw_a xs i 1)) (h := (f 1)) (u := (f 28)) (co := (g 0)) (wc := (g 3)) (ro := (g 1)) (wr := (g 4)) (m := (g 67)) hI.sky
  refine zv_ald (ins := .aload_n 1) (len := 1) hB (by decide +kernel) rfl rfl rfl ?_
  refine zw_arg (j := 1) hB hR i0 i6 hL (by decide +kernel) (by decide) (by decide) rfl ?_
  refine zv_cv (i := 120) (c := 0) (mm2 := zxm159) (rm2 := (4, 240)) (va := [.inl (zw_a xs i 1)]) (S := []) hB (zE_up (by rfl) (by rfl) (by rfl) (by rfl) (by rfl) (zo_X_hours e1)) (by decide +kernel) rfl rfl (by decide) (by decide) rfl ?_
  refine zv_pop hB (by decide +kernel) rfl ?_
  refine zv_ald (ins := .aload_n 2) (len := 1) hB (by decide +kernel) rfl rfl rfl ?_
  refine zw_arg (j := 1) hB hR i0 i6 hL (by decide +kernel) (by decide) (by decide) rfl ?_
  refine zv_cv (i := 123) (c := 1) (mm2 := zxm297) (rm2 := (4, 240)) (va := [.inl (zw_a xs i 1)]) (S := []) hB (zE_up (by rfl) (by rfl) (by rfl) (by rfl) (by rfl) (zo_M_hours e2)) (by decide +kernel) rfl rfl (by decide) (by decide) rfl ?_
  refine zv_pop hB (by decide +kernel) rfl ?_
  refine zv_goto hB (off := 465) (t := 1593) (by decide +kernel) rfl ?_
  exact zw_tail hB i0 i6 hL (k _ _ ⟨hI.law, k', yk_sea_fr hI.sea fun j hj => fr j (by omega) (by omega) (by omega), hI.tape, hI.tale, hI.kept, hI.so, hI.le, hI.ln⟩)
theorem zc_found {good : Nat → List zNV → List zNV → List zNV → List (Int → Int) → Prop} {Lx : Nat} {xs : Nat → Int32} {i : Int} {f : Nat → Int} {g : Nat → Int → Int} (hL : Lx ≤ 3072) (hB : zw_B good) (hR : zw_R Lx xs good) (i0 : 0 ≤ i) (i6 : i + 6 ≤ Lx) (hI : zI f g) (k : ∀ f2 g2, zI f2 g2 → good 18 (zw_lc (i + 6)) [] (zE_F f2) (zE_G g2)) : good 1131 (zw_lc i) [] (zE_F f) (zE_G g) := by
  obtain ⟨L, R⟩ := hI.law
  have tl := zI_tl hI
  obtain ⟨v0, v1, v2, v3, v4, e1, e2, p', fr⟩ := yo_found (t := (f 0)) (n := (f 6)) (T := (g 7)) (co := (g 0)) (wc := (g 3)) (ro := (g 1)) (wr := (g 4)) (n2 := (f 74)) (m := (g 67)) (mA := (g 99)) (M := (g 68)) hI.sky hI.tape
  refine zv_ald (ins := .aload_n 1) (len := 1) hB (by decide +kernel) rfl rfl rfl ?_
  refine zv_cv (i := 124) (c := 0) (mm2 := zxm160) (rm2 := (2, 120)) (va := []) (S := []) hB (zE_up (by rfl) (by rfl) (by rfl) (by rfl) (by rfl) (zo_X_found e1)) (by decide +kernel) rfl rfl (by decide) (by decide) rfl ?_
  refine zv_pop hB (by decide +kernel) rfl ?_
  refine zv_ald (ins := .aload_n 2) (len := 1) hB (by decide +kernel) rfl rfl rfl ?_
  refine zv_cv (i := 128) (c := 1) (mm2 := zxm298) (rm2 := (3, 180)) (va := []) (S := []) hB (zE_up (by rfl) (by rfl) (by rfl) (by rfl) (by rfl) (zo_M_found e2)) (by decide +kernel) rfl rfl (by decide) (by decide) rfl ?_
  refine zv_pop hB (by decide +kernel) rfl ?_
  refine zv_goto hB (off := 452) (t := 1593) (by decide +kernel) rfl ?_
  exact zw_tail hB i0 i6 hL (k _ _ ⟨hI.law, zI_sky hI fr, zI_sea hI fr, p', hI.tale, hI.kept, hI.so, hI.le, hI.ln⟩)
theorem zc_meeting {good : Nat → List zNV → List zNV → List zNV → List (Int → Int) → Prop} {Lx : Nat} {xs : Nat → Int32} {i : Int} {f : Nat → Int} {g : Nat → Int → Int} (hL : Lx ≤ 3072) (hB : zw_B good) (hR : zw_R Lx xs good) (i0 : 0 ≤ i) (i6 : i + 6 ≤ Lx) (hI : zI f g) (k : ∀ f2 g2, zI f2 g2 → good 18 (zw_lc (i + 6)) [] (zE_F f2) (zE_G g2)) : good 1144 (zw_lc i) [] (zE_F f) (zE_G g) := by
  obtain ⟨L, R⟩ := hI.law
  have tl := zI_tl hI
  obtain ⟨v0, v1, v2, v3, v4, v5, v6, e1, e2⟩ := yo_meeting (a := (zw_a xs i 1)) (b := (zw_a xs i 2)) (w := (zw_a xs i 3)) (ts := (f 5)) (gp := (g 5)) (h1 := (g 47)) (q1 := (g 48)) (gl := (g 6)) (h3 := (g 49)) (m := (g 67)) (fA := (g 100)) (q2 := (g 101)) (fB := (g 102)) hI.sea
  refine zv_ald (ins := .aload_n 1) (len := 1) hB (by decide +kernel) rfl rfl rfl ?_
  refine zw_arg (j := 1) hB hR i0 i6 hL (by decide +kernel) (by decide) (by decide) rfl ?_
  refine zw_arg (j := 2) hB hR i0 i6 hL (by decide +kernel) (by decide) (by decide) rfl ?_
  refine zw_arg (j := 3) hB hR i0 i6 hL (by decide +kernel) (by decide) (by decide) rfl ?_
  refine zv_cv (i := 129) (c := 0) (mm2 := zxm161) (rm2 := (5, 300)) (va := [.inl (zw_a xs i 1), .inl (zw_a xs i 2), .inl (zw_a xs i 3)]) (S := []) hB (zE_up (by rfl) (by rfl) (by rfl) (by rfl) (by rfl) (zo_X_meeting e1)) (by decide +kernel) rfl rfl (by decide) (by decide) rfl ?_
  refine zv_pop hB (by decide +kernel) rfl ?_
  refine zv_ald (ins := .aload_n 2) (len := 1) hB (by decide +kernel) rfl rfl rfl ?_
  refine zw_arg (j := 1) hB hR i0 i6 hL (by decide +kernel) (by decide) (by decide) rfl ?_
  refine zw_arg (j := 2) hB hR i0 i6 hL (by decide +kernel) (by decide) (by decide) rfl ?_
  refine zw_arg (j := 3) hB hR i0 i6 hL (by decide +kernel) (by decide) (by decide) rfl ?_
  refine zv_cv (i := 132) (c := 1) (mm2 := zxm302) (rm2 := (2, 120)) (va := [.inl (zw_a xs i 1), .inl (zw_a xs i 2), .inl (zw_a xs i 3)]) (S := []) hB (zE_up (by rfl) (by rfl) (by rfl) (by rfl) (by rfl) (zo_M_meeting e2)) (by decide +kernel) rfl rfl (by decide) (by decide) rfl ?_
  refine zv_pop hB (by decide +kernel) rfl ?_
  refine zv_goto hB (off := 409) (t := 1593) (by decide +kernel) rfl ?_
  exact zw_tail hB i0 i6 hL (k _ _ ⟨hI.law, hI.sky, hI.sea, hI.tape, hI.tale, hI.kept, hI.so, hI.le, hI.ln⟩)
theorem zc_fastest {good : Nat → List zNV → List zNV → List zNV → List (Int → Int) → Prop} {Lx : Nat} {xs : Nat → Int32} {i : Int} {f : Nat → Int} {g : Nat → Int → Int} (hL : Lx ≤ 3072) (hB : zw_B good) (hR : zw_R Lx xs good) (i0 : 0 ≤ i) (i6 : i + 6 ≤ Lx) (hI : zI f g) (k : ∀ f2 g2, zI f2 g2 → good 18 (zw_lc (i + 6)) [] (zE_F f2) (zE_G g2)) : good 1187 (zw_lc i) [] (zE_F f) (zE_G g) := by
  obtain ⟨L, R⟩ := hI.law
  have tl := zI_tl hI
  obtain ⟨o1, o2, e1, e2, hr, h2⟩ := yo_fastest (s := (zw_a xs i 1)) (x := (zw_a xs i 2)) (y := (zw_a xs i 3)) (n := (zw_a xs i 4)) (w := (zw_a xs i 5)) (ts := (f 5)) (t := (f 0)) (f2 := (f 42)) (h := (f 1)) (f4 := (f 43)) (u := (f 28)) (f6 := (f 44)) (cl := (f 2)) (f8 := (f 45)) (sc := (f 3)) (f10 := (f 46)) (sr := (f 4)) (f12 := (f 47)) (ch := (f 48)) (f14 := (f 49)) (f18 := (f 25)) (f19 := (f 26)) (f20 := (f 27)) (tS := (f 30)) (f22 := (f 31)) (nc := (f 32)) (f24 := (f 33)) (sP := (f 34)) (f26 := (f 51)) (f27 := (f 52)) (co := (g 0)) (g1 := (g 29)) (ro := (g 1)) (g3 := (g 30)) (br := (g 2)) (g5 := (g 31)) (wc := (g 3)) (g7 := (g 32)) (wr := (g 4)) (g9 := (g 33)) (g10 := (g 15)) (gp := (g 5)) (g12 := (g 50)) (g13 := (g 16)) (kd := (g 17)) (hf := (g 18)) (to := (g 19)) (K := (g 20)) (g18 := (g 21)) (V := (g 22)) (gl := (g 6)) (mc := (f 83)) (m := (g 67)) (aA := (g 99)) (mk := (g 76)) (g := (g 80)) (mh := (g 78)) (mt := (g 79)) (C := (g 75)) (S := (g 81)) (mf := (g 77)) R hI.sky hI.sea
  refine zv_ald (ins := .aload_n 1) (len := 1) hB (by decide +kernel) rfl rfl rfl ?_
  refine zw_arg (j := 1) hB hR i0 i6 hL (by decide +kernel) (by decide) (by decide) rfl ?_
  refine zw_arg (j := 2) hB hR i0 i6 hL (by decide +kernel) (by decide) (by decide) rfl ?_
  refine zw_arg (j := 3) hB hR i0 i6 hL (by decide +kernel) (by decide) (by decide) rfl ?_
  refine zw_arg (j := 4) hB hR i0 i6 hL (by decide +kernel) (by decide) (by decide) rfl ?_
  refine zw_arg (j := 5) hB hR i0 i6 hL (by decide +kernel) (by decide) (by decide) rfl ?_
  refine zv_cv (i := 133) (c := 0) (mm2 := zxm165) (rm2 := (7, 420)) (va := [.inl (zw_a xs i 1), .inl (zw_a xs i 2), .inl (zw_a xs i 3), .inl (zw_a xs i 4), .inl (zw_a xs i 5)]) (S := []) hB (zE_up (by rfl) (by rfl) (by rfl) (by rfl) (by rfl) (zo_X_fastest e1)) (by decide +kernel) rfl rfl (by decide) (by decide) rfl ?_
  refine zv_pop hB (by decide +kernel) rfl ?_
  refine zv_ald (ins := .aload_n 2) (len := 1) hB (by decide +kernel) rfl rfl rfl ?_
  refine zw_arg (j := 1) hB hR i0 i6 hL (by decide +kernel) (by decide) (by decide) rfl ?_
  refine zw_arg (j := 2) hB hR i0 i6 hL (by decide +kernel) (by decide) (by decide) rfl ?_
  refine zw_arg (j := 3) hB hR i0 i6 hL (by decide +kernel) (by decide) (by decide) rfl ?_
  refine zw_arg (j := 4) hB hR i0 i6 hL (by decide +kernel) (by decide) (by decide) rfl ?_
  refine zw_arg (j := 5) hB hR i0 i6 hL (by decide +kernel) (by decide) (by decide) rfl ?_
  refine zv_cv (i := 136) (c := 1) (mm2 := zxm305) (rm2 := (7, 420)) (va := [.inl (zw_a xs i 1), .inl (zw_a xs i 2), .inl (zw_a xs i 3), .inl (zw_a xs i 4), .inl (zw_a xs i 5)]) (S := []) hB (zE_up (by rfl) (by rfl) (by rfl) (by rfl) (by rfl) (zo_M_fastest e2)) (by decide +kernel) rfl rfl (by decide) (by decide) rfl ?_
  refine zv_pop hB (by decide +kernel) rfl ?_
  refine zv_goto hB (off := 346) (t := 1593) (by decide +kernel) rfl ?_
  exact zw_tail hB i0 i6 hL (k _ _ ⟨hI.law, zI_sky hI h2, zI_sea hI h2, hI.tape, hI.tale, hI.kept, hI.so, hI.le, hI.ln⟩)
theorem zc_byTwo {good : Nat → List zNV → List zNV → List zNV → List (Int → Int) → Prop} {Lx : Nat} {xs : Nat → Int32} {i : Int} {f : Nat → Int} {g : Nat → Int → Int} (hL : Lx ≤ 3072) (hB : zw_B good) (hR : zw_R Lx xs good) (i0 : 0 ≤ i) (i6 : i + 6 ≤ Lx) (hI : zI f g) (k : ∀ f2 g2, zI f2 g2 → good 18 (zw_lc (i + 6)) [] (zE_F f2) (zE_G g2)) : good 1250 (zw_lc i) [] (zE_F f) (zE_G g) := by
  obtain ⟨L, R⟩ := hI.law
  have tl := zI_tl hI
  obtain ⟨o1, e1, h1⟩ := yw_byTwoX (s := (zw_a xs i 1)) (x := (zw_a xs i 2)) (y := (zw_a xs i 3)) (n := (zw_a xs i 4)) (w := (zw_a xs i 5)) (ts := (f 5)) (t := (f 0)) (f2 := (f 42)) (h := (f 1)) (f4 := (f 43)) (u := (f 28)) (f6 := (f 44)) (cl := (f 2)) (f8 := (f 45)) (sc := (f 3)) (f10 := (f 46)) (sr := (f 4)) (f12 := (f 47)) (ch := (f 48)) (f14 := (f 49)) (f18 := (f 25)) (f19 := (f 53)) (f20 := (f 26)) (f21 := (f 27)) (tS := (f 30)) (f23 := (f 31)) (nc := (f 32)) (f25 := (f 33)) (sP := (f 34)) (f27 := (f 54)) (f28 := (f 51)) (f29 := (f 52)) (f30 := (f 55)) (f31 := (f 56)) (co := (g 0)) (g1 := (g 29)) (ro := (g 1)) (g3 := (g 30)) (br := (g 2)) (g5 := (g 31)) (wc := (g 3)) (g7 := (g 32)) (wr := (g 4)) (g9 := (g 33)) (g10 := (g 15)) (gp := (g 5)) (g12 := (g 50)) (g13 := (g 16)) (kd := (g 17)) (hf := (g 18)) (to := (g 19)) (K := (g 20)) (g18 := (g 21)) (V := (g 22)) (gl := (g 6)) (g21 := (g 51)) (g22 := (g 52)) (g23 := (g 53)) (g24 := (g 54)) (g25 := (g 55)) R hI.sky hI.sea hI.le hI.ln
  obtain ⟨o2, e2, h2⟩ := yw_byTwoM (s := (zw_a xs i 1)) (x := (zw_a xs i 2)) (y := (zw_a xs i 3)) (n := (zw_a xs i 4)) (w := (zw_a xs i 5)) (mc := (f 83)) (f1 := (f 92)) (f2 := (f 93)) (f3 := (f 94)) (f4 := (f 95)) (m := (g 67)) (aA := (g 99)) (mk := (g 76)) (g := (g 80)) (mh := (g 78)) (mt := (g 79)) (C := (g 75)) (S := (g 81)) (mf := (g 77)) R hI.sky hI.sea
  refine zv_ald (ins := .aload_n 1) (len := 1) hB (by decide +kernel) rfl rfl rfl ?_
  refine zw_arg (j := 1) hB hR i0 i6 hL (by decide +kernel) (by decide) (by decide) rfl ?_
  refine zw_arg (j := 2) hB hR i0 i6 hL (by decide +kernel) (by decide) (by decide) rfl ?_
  refine zw_arg (j := 3) hB hR i0 i6 hL (by decide +kernel) (by decide) (by decide) rfl ?_
  refine zw_arg (j := 4) hB hR i0 i6 hL (by decide +kernel) (by decide) (by decide) rfl ?_
  refine zw_arg (j := 5) hB hR i0 i6 hL (by decide +kernel) (by decide) (by decide) rfl ?_
  refine zv_cv (i := 137) (c := 0) (mm2 := zxm170) (rm2 := (7, 420)) (va := [.inl (zw_a xs i 1), .inl (zw_a xs i 2), .inl (zw_a xs i 3), .inl (zw_a xs i 4), .inl (zw_a xs i 5)]) (S := []) hB (zE_up (by rfl) (by rfl) (by rfl) (by rfl) (by rfl) (zo_X_byTwo e1)) (by decide +kernel) rfl rfl (by decide) (by decide) rfl ?_
  refine zv_pop hB (by decide +kernel) rfl ?_
  refine zv_ald (ins := .aload_n 2) (len := 1) hB (by decide +kernel) rfl rfl rfl ?_
  refine zw_arg (j := 1) hB hR i0 i6 hL (by decide +kernel) (by decide) (by decide) rfl ?_
  refine zw_arg (j := 2) hB hR i0 i6 hL (by decide +kernel) (by decide) (by decide) rfl ?_
  refine zw_arg (j := 3) hB hR i0 i6 hL (by decide +kernel) (by decide) (by decide) rfl ?_
  refine zw_arg (j := 4) hB hR i0 i6 hL (by decide +kernel) (by decide) (by decide) rfl ?_
  refine zw_arg (j := 5) hB hR i0 i6 hL (by decide +kernel) (by decide) (by decide) rfl ?_
  refine zv_cv (i := 140) (c := 1) (mm2 := zxm307) (rm2 := (8, 480)) (va := [.inl (zw_a xs i 1), .inl (zw_a xs i 2), .inl (zw_a xs i 3), .inl (zw_a xs i 4), .inl (zw_a xs i 5)]) (S := []) hB (zE_up (by rfl) (by rfl) (by rfl) (by rfl) (by rfl) (zo_M_byTwo e2)) (by decide +kernel) rfl rfl (by decide) (by decide) rfl ?_
  refine zv_pop hB (by decide +kernel) rfl ?_
  refine zv_goto hB (off := 283) (t := 1593) (by decide +kernel) rfl ?_
  exact zw_tail hB i0 i6 hL (k _ _ ⟨hI.law, zI_sky hI h2, zI_sea hI h2, hI.tape, hI.tale, hI.kept, hI.so, h1.1, h1.2⟩)
theorem zc_both {good : Nat → List zNV → List zNV → List zNV → List (Int → Int) → Prop} {Lx : Nat} {xs : Nat → Int32} {i : Int} {f : Nat → Int} {g : Nat → Int → Int} (hL : Lx ≤ 3072) (hB : zw_B good) (hR : zw_R Lx xs good) (i0 : 0 ≤ i) (i6 : i + 6 ≤ Lx) (hI : zI f g) (k : ∀ f2 g2, zI f2 g2 → good 18 (zw_lc (i + 6)) [] (zE_F f2) (zE_G g2)) : good 1313 (zw_lc i) [] (zE_F f) (zE_G g) := by
  obtain ⟨L, R⟩ := hI.law
  have tl := zI_tl hI
  obtain ⟨o1, e1, h1⟩ := yw_bothX (x := (zw_a xs i 1)) (y := (zw_a xs i 2)) (w := (zw_a xs i 3)) (f3 := (f 25)) (f4 := (f 26)) (f5 := (f 27)) (h := (f 1)) (u := (f 28)) (f8 := (f 29)) (t := (f 0)) (sc := (f 3)) (sr := (f 4)) (cl := (f 2)) (tS := (f 30)) (f14 := (f 31)) (nc := (f 32)) (f16 := (f 33)) (sP := (f 34)) (tL := (f 35)) (lP := (f 36)) (f22 := (f 59)) (f23 := (f 60)) (f24 := (f 61)) (f25 := (f 62)) (f26 := (f 63)) (n := (f 37)) (f31 := (f 41)) (f32 := (f 38)) (g0 := (g 15)) (g1 := (g 16)) (co := (g 0)) (ro := (g 1)) (br := (g 2)) (kd := (g 17)) (hf := (g 18)) (to := (g 19)) (K := (g 20)) (g9 := (g 21)) (V := (g 22)) (g11 := (g 23)) (g12 := (g 24)) (g13 := (g 56)) (g14 := (g 57)) (g15 := (g 58)) (g16 := (g 25)) (g17 := (g 26)) (g18 := (g 27)) (g19 := (g 28)) R hI.sky hI.so
  obtain ⟨o2, e2, h2⟩ := yw_bothM (x := (zw_a xs i 1)) (y := (zw_a xs i 2)) (w := (zw_a xs i 3)) (mc := (f 83)) (f1 := (f 84)) (n := (f 88)) (f3 := (f 90)) (ni := (f 89)) (m := (g 67)) (mk := (g 76)) (g2 := (g 80)) (mh := (g 78)) (mt := (g 79)) (C := (g 75)) (g6 := (g 81)) (g7 := (g 82)) (g8 := (g 103)) (g9 := (g 87)) (g10 := (g 88)) (tf := (g 85)) (tt := (g 86)) (g13 := (g 89)) R hI.sky tl
  refine zv_ald (ins := .aload_n 1) (len := 1) hB (by decide +kernel) rfl rfl rfl ?_
  refine zw_arg (j := 1) hB hR i0 i6 hL (by decide +kernel) (by decide) (by decide) rfl ?_
  refine zw_arg (j := 2) hB hR i0 i6 hL (by decide +kernel) (by decide) (by decide) rfl ?_
  refine zw_arg (j := 3) hB hR i0 i6 hL (by decide +kernel) (by decide) (by decide) rfl ?_
  refine zv_cv (i := 141) (c := 0) (mm2 := zxm175) (rm2 := (13, 780)) (va := [.inl (zw_a xs i 1), .inl (zw_a xs i 2), .inl (zw_a xs i 3)]) (S := []) hB (zE_up (by rfl) (by rfl) (by rfl) (by rfl) (by rfl) (zo_X_both e1)) (by decide +kernel) rfl rfl (by decide) (by decide) rfl ?_
  refine zv_pop hB (by decide +kernel) rfl ?_
  refine zv_ald (ins := .aload_n 2) (len := 1) hB (by decide +kernel) rfl rfl rfl ?_
  refine zw_arg (j := 1) hB hR i0 i6 hL (by decide +kernel) (by decide) (by decide) rfl ?_
  refine zw_arg (j := 2) hB hR i0 i6 hL (by decide +kernel) (by decide) (by decide) rfl ?_
  refine zw_arg (j := 3) hB hR i0 i6 hL (by decide +kernel) (by decide) (by decide) rfl ?_
  refine zv_cv (i := 144) (c := 1) (mm2 := zxm310) (rm2 := (7, 420)) (va := [.inl (zw_a xs i 1), .inl (zw_a xs i 2), .inl (zw_a xs i 3)]) (S := []) hB (zE_up (by rfl) (by rfl) (by rfl) (by rfl) (by rfl) (zo_M_both e2)) (by decide +kernel) rfl rfl (by decide) (by decide) rfl ?_
  refine zv_pop hB (by decide +kernel) rfl ?_
  refine zv_goto hB (off := 240) (t := 1593) (by decide +kernel) rfl ?_
  exact zw_tail hB i0 i6 hL (k _ _ ⟨hI.law, hI.sky, hI.sea, hI.tape, hI.tale, hI.kept, h1, hI.le, hI.ln⟩)
theorem zc_hidden {good : Nat → List zNV → List zNV → List zNV → List (Int → Int) → Prop} {Lx : Nat} {xs : Nat → Int32} {i : Int} {f : Nat → Int} {g : Nat → Int → Int} (hL : Lx ≤ 3072) (hB : zw_B good) (hR : zw_R Lx xs good) (i0 : 0 ≤ i) (i6 : i + 6 ≤ Lx) (hI : zI f g) (k : ∀ f2 g2, zI f2 g2 → good 18 (zw_lc (i + 6)) [] (zE_F f2) (zE_G g2)) : good 1356 (zw_lc i) [] (zE_F f) (zE_G g) := by
  obtain ⟨L, R⟩ := hI.law
  have tl := zI_tl hI
  obtain ⟨o1, e1, h1⟩ := yw_hiddenX (x := (zw_a xs i 1)) (y := (zw_a xs i 2)) (w := (zw_a xs i 3)) (n := (f 37)) (f5 := (f 25)) (f6 := (f 26)) (f7 := (f 27)) (h := (f 1)) (u := (f 28)) (f10 := (f 29)) (t := (f 0)) (sc := (f 3)) (sr := (f 4)) (cl := (f 2)) (tS := (f 30)) (f16 := (f 31)) (nc := (f 32)) (f18 := (f 33)) (sP := (f 34)) (tL := (f 35)) (lP := (f 36)) (f24 := (f 41)) (f25 := (f 38)) (f26 := (f 64)) (g0 := (g 15)) (g1 := (g 16)) (co := (g 0)) (ro := (g 1)) (br := (g 2)) (kd := (g 17)) (hf := (g 18)) (to := (g 19)) (K := (g 20)) (g9 := (g 21)) (V := (g 22)) (g11 := (g 23)) (g12 := (g 24)) (g13 := (g 25)) (g14 := (g 26)) (g15 := (g 27)) (g16 := (g 28)) R hI.sky hI.so
  obtain ⟨o2, e2, h2⟩ := yw_hiddenM (x := (zw_a xs i 1)) (y := (zw_a xs i 2)) (w := (zw_a xs i 3)) (n := (f 88)) (mc := (f 83)) (f2 := (f 84)) (f3 := (f 90)) (ni := (f 89)) (m := (g 67)) (mk := (g 76)) (g2 := (g 80)) (mh := (g 78)) (mt := (g 79)) (C := (g 75)) (g6 := (g 81)) (g7 := (g 82)) (g8 := (g 87)) (g9 := (g 88)) (tf := (g 85)) (tt := (g 86)) (g12 := (g 89)) R hI.sky tl
  refine zv_ald (ins := .aload_n 1) (len := 1) hB (by decide +kernel) rfl rfl rfl ?_
  refine zw_arg (j := 1) hB hR i0 i6 hL (by decide +kernel) (by decide) (by decide) rfl ?_
  refine zw_arg (j := 2) hB hR i0 i6 hL (by decide +kernel) (by decide) (by decide) rfl ?_
  refine zw_arg (j := 3) hB hR i0 i6 hL (by decide +kernel) (by decide) (by decide) rfl ?_
  refine zv_cv (i := 145) (c := 0) (mm2 := zxm177) (rm2 := (21, 1260)) (va := [.inl (zw_a xs i 1), .inl (zw_a xs i 2), .inl (zw_a xs i 3)]) (S := []) hB (zE_up (by rfl) (by rfl) (by rfl) (by rfl) (by rfl) (zo_X_hidden e1)) (by decide +kernel) rfl rfl (by decide) (by decide) rfl ?_
  refine zv_pop hB (by decide +kernel) rfl ?_
  refine zv_ald (ins := .aload_n 2) (len := 1) hB (by decide +kernel) rfl rfl rfl ?_
  refine zw_arg (j := 1) hB hR i0 i6 hL (by decide +kernel) (by decide) (by decide) rfl ?_
  refine zw_arg (j := 2) hB hR i0 i6 hL (by decide +kernel) (by decide) (by decide) rfl ?_
  refine zw_arg (j := 3) hB hR i0 i6 hL (by decide +kernel) (by decide) (by decide) rfl ?_
  refine zv_cv (i := 148) (c := 1) (mm2 := zxm312) (rm2 := (8, 480)) (va := [.inl (zw_a xs i 1), .inl (zw_a xs i 2), .inl (zw_a xs i 3)]) (S := []) hB (zE_up (by rfl) (by rfl) (by rfl) (by rfl) (by rfl) (zo_M_hidden e2)) (by decide +kernel) rfl rfl (by decide) (by decide) rfl ?_
  refine zv_pop hB (by decide +kernel) rfl ?_
  refine zv_goto hB (off := 197) (t := 1593) (by decide +kernel) rfl ?_
  exact zw_tail hB i0 i6 hL (k _ _ ⟨hI.law, zI_sky hI fun j _ _ => h2 j, zI_sea hI fun j _ _ => h2 j, hI.tape, hI.tale, hI.kept, h1, hI.le, hI.ln⟩)
theorem zc_log {good : Nat → List zNV → List zNV → List zNV → List (Int → Int) → Prop} {Lx : Nat} {xs : Nat → Int32} {i : Int} {f : Nat → Int} {g : Nat → Int → Int} (hL : Lx ≤ 3072) (hB : zw_B good) (hR : zw_R Lx xs good) (i0 : 0 ≤ i) (i6 : i + 6 ≤ Lx) (hI : zI f g) (k : ∀ f2 g2, zI f2 g2 → good 18 (zw_lc (i + 6)) [] (zE_F f2) (zE_G g2)) : good 1399 (zw_lc i) [] (zE_F f) (zE_G g) := by
  obtain ⟨L, R⟩ := hI.law
  have tl := zI_tl hI
  obtain ⟨o1, e1, h1⟩ := yw_logX (a := (zw_a xs i 1)) (w := (zw_a xs i 2)) (ln := (f 37)) (n := (f 6)) (t := (f 0)) (f4 := (f 42)) (h := (f 1)) (f6 := (f 43)) (u := (f 28)) (f8 := (f 44)) (cl := (f 2)) (f10 := (f 45)) (sc := (f 3)) (f12 := (f 46)) (sr := (f 4)) (f14 := (f 47)) (ch := (f 48)) (f16 := (f 49)) (f20 := (f 25)) (f21 := (f 26)) (f22 := (f 27)) (f23 := (f 29)) (tS := (f 30)) (f25 := (f 31)) (nc := (f 32)) (f27 := (f 33)) (sP := (f 34)) (nn := (f 38)) (tL := (f 35)) (lP := (f 36)) (f34 := (f 41)) (T := (g 7)) (g1 := (g 59)) (gl := (g 6)) (co := (g 0)) (g4 := (g 29)) (ro := (g 1)) (g6 := (g 30)) (br := (g 2)) (g8 := (g 31)) (wc := (g 3)) (g10 := (g 32)) (wr := (g 4)) (g12 := (g 33)) (g13 := (g 15)) (g14 := (g 16)) (kd := (g 17)) (hf := (g 18)) (to := (g 19)) (K := (g 20)) (g19 := (g 21)) (V := (g 22)) (g21 := (g 23)) (g22 := (g 24)) (g23 := (g 25)) (nr := (g 26)) (g25 := (g 27)) (g26 := (g 28)) R hI.sky hI.sea hI.tape.2.2.2 hI.so
  obtain ⟨o2, e2, h2⟩ := yw_logM (a := (zw_a xs i 1)) (w := (zw_a xs i 2)) (ln := (f 88)) (n := (f 74)) (mc := (f 83)) (f3 := (f 84)) (f4 := (f 90)) (nn := (f 89)) (A := (g 104)) (M := (g 68)) (B := (g 105)) (sp := (g 106)) (m := (g 67)) (aA := (g 99)) (mk := (g 76)) (g := (g 80)) (mh := (g 78)) (mt := (g 79)) (C := (g 75)) (S := (g 81)) (d1 := (g 82)) (d2 := (g 87)) (d3 := (g 88)) (tf := (g 85)) (tt := (g 86)) (d4 := (g 89)) R hI.sky hI.sea hI.tape.2.2.2 tl
  refine zv_ald (ins := .aload_n 1) (len := 1) hB (by decide +kernel) rfl rfl rfl ?_
  refine zw_arg (j := 1) hB hR i0 i6 hL (by decide +kernel) (by decide) (by decide) rfl ?_
  refine zw_arg (j := 2) hB hR i0 i6 hL (by decide +kernel) (by decide) (by decide) rfl ?_
  refine zv_cv (i := 149) (c := 0) (mm2 := zxm182) (rm2 := (14, 840)) (va := [.inl (zw_a xs i 1), .inl (zw_a xs i 2)]) (S := []) hB (zE_up (by rfl) (by rfl) (by rfl) (by rfl) (by rfl) (zo_X_log e1)) (by decide +kernel) rfl rfl (by decide) (by decide) rfl ?_
  refine zv_pop hB (by decide +kernel) rfl ?_
  refine zv_ald (ins := .aload_n 2) (len := 1) hB (by decide +kernel) rfl rfl rfl ?_
  refine zw_arg (j := 1) hB hR i0 i6 hL (by decide +kernel) (by decide) (by decide) rfl ?_
  refine zw_arg (j := 2) hB hR i0 i6 hL (by decide +kernel) (by decide) (by decide) rfl ?_
  refine zv_cv (i := 152) (c := 1) (mm2 := zxm314) (rm2 := (7, 420)) (va := [.inl (zw_a xs i 1), .inl (zw_a xs i 2)]) (S := []) hB (zE_up (by rfl) (by rfl) (by rfl) (by rfl) (by rfl) (zo_M_log e2)) (by decide +kernel) rfl rfl (by decide) (by decide) rfl ?_
  refine zv_pop hB (by decide +kernel) rfl ?_
  refine zv_goto hB (off := 164) (t := 1593) (by decide +kernel) rfl ?_
  exact zw_tail hB i0 i6 hL (k _ _ ⟨hI.law, zI_sky hI h2.2, zI_sea hI h2.2, zI_size hI h1.1 (h2.1.trans (by rw [hI.tale.1, hI.tape.1])) (by unfold yw_logS; split; exact .inl rfl; split; exact .inl rfl; split; exact .inl rfl; split; exact .inl rfl; exact .inr rfl), hI.tale, hI.kept, h1.2, hI.le, hI.ln⟩)
