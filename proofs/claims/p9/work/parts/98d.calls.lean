/-! The calls of the law, case by case. -/
theorem zc_over {good : Nat → List zNV → List zNV → List zNV → List (Int → Int) → Prop} {Lx : Nat} {xs : Nat → Int32} {i : Int} {f : Nat → Int} {g : Nat → Int → Int} (hL : Lx ≤ 3072) (hB : zw_B good) (hR : zw_R Lx xs good) (i0 : 0 ≤ i) (i6 : i + 6 ≤ Lx) (hI : zI f g) (k : ∀ f2 g2, zI f2 g2 → good 18 (zw_lc (i + 6)) [] (zE_F f2) (zE_G g2)) : good 1432 (zw_lc i) [] (zE_F f) (zE_G g) := by
  obtain ⟨L, R⟩ := hI.law
  have tl := zI_tl hI
  obtain ⟨v0, e1, e2⟩ := yo_over (x := (zw_a xs i 1)) (y := (zw_a xs i 2)) (t := (f 0)) (ro := (g 1)) (co := (g 0)) (m := (g 67)) hI.sky
  refine zv_ald (ins := .aload_n 1) (len := 1) hB (by decide +kernel) rfl rfl rfl ?_
  refine zw_arg (j := 1) hB hR i0 i6 hL (by decide +kernel) (by decide) (by decide) rfl ?_
  refine zw_arg (j := 2) hB hR i0 i6 hL (by decide +kernel) (by decide) (by decide) rfl ?_
  refine zv_cv (i := 153) (c := 0) (mm2 := zxm187) (rm2 := (1, 60)) (va := [.inl (zw_a xs i 1), .inl (zw_a xs i 2)]) (S := []) hB (zE_up (by rfl) (by rfl) (by rfl) (by rfl) (by rfl) (zo_X_over e1)) (by decide +kernel) rfl rfl (by decide) (by decide) rfl ?_
  refine zv_pop hB (by decide +kernel) rfl ?_
  refine zv_ald (ins := .aload_n 2) (len := 1) hB (by decide +kernel) rfl rfl rfl ?_
  refine zw_arg (j := 1) hB hR i0 i6 hL (by decide +kernel) (by decide) (by decide) rfl ?_
  refine zw_arg (j := 2) hB hR i0 i6 hL (by decide +kernel) (by decide) (by decide) rfl ?_
  refine zv_cv (i := 156) (c := 1) (mm2 := zxm316) (rm2 := (2, 120)) (va := [.inl (zw_a xs i 1), .inl (zw_a xs i 2)]) (S := []) hB (zE_up (by rfl) (by rfl) (by rfl) (by rfl) (by rfl) (zo_M_over e2)) (by decide +kernel) rfl rfl (by decide) (by decide) rfl ?_
  refine zv_pop hB (by decide +kernel) rfl ?_
  refine zv_goto hB (off := 131) (t := 1593) (by decide +kernel) rfl ?_
  exact zw_tail hB i0 i6 hL (k _ _ ⟨hI.law, hI.sky, hI.sea, hI.tape, hI.tale, hI.kept, hI.so, hI.le, hI.ln⟩)
theorem zc_home {good : Nat → List zNV → List zNV → List zNV → List (Int → Int) → Prop} {Lx : Nat} {xs : Nat → Int32} {i : Int} {f : Nat → Int} {g : Nat → Int → Int} (hL : Lx ≤ 3072) (hB : zw_B good) (hR : zw_R Lx xs good) (i0 : 0 ≤ i) (i6 : i + 6 ≤ Lx) (hI : zI f g) (k : ∀ f2 g2, zI f2 g2 → good 18 (zw_lc (i + 6)) [] (zE_F f2) (zE_G g2)) : good 1465 (zw_lc i) [] (zE_F f) (zE_G g) := by
  obtain ⟨L, R⟩ := hI.law
  have tl := zI_tl hI
  obtain ⟨v0, v1, v2, v3, v4, v5, v6, v7, v8, v9, v10, v11, v12, v13, v14, v15, v16, v17, v18, v19, v20, v21, v22, v23, v24, v25, v26, v27, v28, v29, v30, v31, v32, v33, v34, v35, v36, v37, v38, e1, e2, fr⟩ := yo_home (x := (zw_a xs i 1)) (y := (zw_a xs i 2)) (f3 := (f 25)) (f4 := (f 26)) (f5 := (f 27)) (h := (f 1)) (u := (f 28)) (f8 := (f 29)) (t := (f 0)) (sc := (f 3)) (sr := (f 4)) (cl := (f 2)) (tS := (f 30)) (f14 := (f 31)) (nc := (f 32)) (f16 := (f 33)) (sP := (f 34)) (tL := (f 35)) (lP := (f 36)) (f20 := (f 42)) (f21 := (f 43)) (f22 := (f 44)) (f23 := (f 45)) (f24 := (f 46)) (f25 := (f 47)) (ch := (f 48)) (f27 := (f 49)) (f30 := (f 59)) (f31 := (f 60)) (f32 := (f 61)) (f33 := (f 62)) (f34 := (f 63)) (g0 := (g 15)) (g1 := (g 16)) (co := (g 0)) (ro := (g 1)) (br := (g 2)) (kd := (g 17)) (hf := (g 18)) (to := (g 19)) (K := (g 20)) (g9 := (g 21)) (V := (g 22)) (g11 := (g 23)) (g12 := (g 24)) (g13 := (g 29)) (g14 := (g 30)) (g15 := (g 31)) (wc := (g 3)) (g17 := (g 32)) (wr := (g 4)) (g19 := (g 33)) (g20 := (g 56)) (g21 := (g 57)) (g22 := (g 58)) (mc := (f 83)) (f1 := (f 84)) (m := (g 67)) (mk := (g 76)) (h2 := (g 80)) (mh := (g 78)) (mt := (g 79)) (C := (g 75)) (h6 := (g 81)) (h7 := (g 82)) (h8 := (g 103)) (h9 := (g 99)) R hI.sky
  refine zv_ald (ins := .aload_n 1) (len := 1) hB (by decide +kernel) rfl rfl rfl ?_
  refine zw_arg (j := 1) hB hR i0 i6 hL (by decide +kernel) (by decide) (by decide) rfl ?_
  refine zw_arg (j := 2) hB hR i0 i6 hL (by decide +kernel) (by decide) (by decide) rfl ?_
  refine zv_cv (i := 157) (c := 0) (mm2 := zxm188) (rm2 := (6, 360)) (va := [.inl (zw_a xs i 1), .inl (zw_a xs i 2)]) (S := []) hB (zE_up (by rfl) (by rfl) (by rfl) (by rfl) (by rfl) (zo_X_home e1)) (by decide +kernel) rfl rfl (by decide) (by decide) rfl ?_
  refine zv_pop hB (by decide +kernel) rfl ?_
  refine zv_ald (ins := .aload_n 2) (len := 1) hB (by decide +kernel) rfl rfl rfl ?_
  refine zw_arg (j := 1) hB hR i0 i6 hL (by decide +kernel) (by decide) (by decide) rfl ?_
  refine zw_arg (j := 2) hB hR i0 i6 hL (by decide +kernel) (by decide) (by decide) rfl ?_
  refine zv_cv (i := 160) (c := 1) (mm2 := zxm317) (rm2 := (6, 360)) (va := [.inl (zw_a xs i 1), .inl (zw_a xs i 2)]) (S := []) hB (zE_up (by rfl) (by rfl) (by rfl) (by rfl) (by rfl) (zo_M_home e2)) (by decide +kernel) rfl rfl (by decide) (by decide) rfl ?_
  refine zv_pop hB (by decide +kernel) rfl ?_
  refine zv_goto hB (off := 98) (t := 1593) (by decide +kernel) rfl ?_
  exact zw_tail hB i0 i6 hL (k _ _ ⟨hI.law, zI_sky hI fr, zI_sea hI fr, hI.tape, hI.tale, hI.kept, hI.so, hI.le, hI.ln⟩)
theorem zc_seed {good : Nat → List zNV → List zNV → List zNV → List (Int → Int) → Prop} {Lx : Nat} {xs : Nat → Int32} {i : Int} {f : Nat → Int} {g : Nat → Int → Int} (hL : Lx ≤ 3072) (hB : zw_B good) (hR : zw_R Lx xs good) (i0 : 0 ≤ i) (i6 : i + 6 ≤ Lx) (hI : zI f g) (k : ∀ f2 g2, zI f2 g2 → good 18 (zw_lc (i + 6)) [] (zE_F f2) (zE_G g2)) : good 1498 (zw_lc i) [] (zE_F f) (zE_G g) := by
  obtain ⟨L, R⟩ := hI.law
  have tl := zI_tl hI
  obtain ⟨v0, v1, v2, e1, e2, k', fr⟩ := yo_seed (n := (zw_a xs i 1)) (ch := (f 48)) (m := (g 67)) hI.sky
  refine zv_ald (ins := .aload_n 1) (len := 1) hB (by decide +kernel) rfl rfl rfl ?_
  refine zw_arg (j := 1) hB hR i0 i6 hL (by decide +kernel) (by decide) (by decide) rfl ?_
  refine zv_cv (i := 161) (c := 0) (mm2 := zxm190) (rm2 := (1, 60)) (va := [.inl (zw_a xs i 1)]) (S := []) hB (zE_up (by rfl) (by rfl) (by rfl) (by rfl) (by rfl) (zo_X_seed e1)) (by decide +kernel) rfl rfl (by decide) (by decide) rfl ?_
  refine zv_pop hB (by decide +kernel) rfl ?_
  refine zv_ald (ins := .aload_n 2) (len := 1) hB (by decide +kernel) rfl rfl rfl ?_
  refine zw_arg (j := 1) hB hR i0 i6 hL (by decide +kernel) (by decide) (by decide) rfl ?_
  refine zv_cv (i := 164) (c := 1) (mm2 := zxm318) (rm2 := (1, 60)) (va := [.inl (zw_a xs i 1)]) (S := []) hB (zE_up (by rfl) (by rfl) (by rfl) (by rfl) (by rfl) (zo_M_seed e2)) (by decide +kernel) rfl rfl (by decide) (by decide) rfl ?_
  refine zv_pop hB (by decide +kernel) rfl ?_
  refine zv_goto hB (off := 75) (t := 1593) (by decide +kernel) rfl ?_
  exact zw_tail hB i0 i6 hL (k _ _ ⟨hI.law, k', yk_sea_fr hI.sea fun j hj => fr j (by omega), hI.tape, hI.tale, hI.kept, hI.so, hI.le, hI.ln⟩)
theorem zc_keep {good : Nat → List zNV → List zNV → List zNV → List (Int → Int) → Prop} {Lx : Nat} {xs : Nat → Int32} {i : Int} {f : Nat → Int} {g : Nat → Int → Int} (hL : Lx ≤ 3072) (hB : zw_B good) (hR : zw_R Lx xs good) (i0 : 0 ≤ i) (i6 : i + 6 ≤ Lx) (hI : zI f g) (k : ∀ f2 g2, zI f2 g2 → good 18 (zw_lc (i + 6)) [] (zE_F f2) (zE_G g2)) : good 1521 (zw_lc i) [] (zE_F f) (zE_G g) := by
  obtain ⟨L, R⟩ := hI.law
  have tl := zI_tl hI
  obtain ⟨v0, v1, v2, v3, v4, v5, v6, v7, v8, e1, e2, k', z'⟩ := yo_keep (t := (f 0)) (f1 := (f 65)) (h := (f 1)) (f3 := (f 66)) (u := (f 28)) (f5 := (f 67)) (cl := (f 2)) (f7 := (f 68)) (sc := (f 3)) (f9 := (f 69)) (sr := (f 4)) (f11 := (f 70)) (ch := (f 48)) (f13 := (f 71)) (ts := (f 5)) (f15 := (f 72)) (f16 := (f 73)) (co := (g 0)) (g1 := (g 60)) (ro := (g 1)) (g3 := (g 61)) (br := (g 2)) (g5 := (g 62)) (wc := (g 3)) (g7 := (g 63)) (wr := (g 4)) (g9 := (g 64)) (gl := (g 6)) (g11 := (g 65)) (gp := (g 5)) (g13 := (g 66)) (f0 := (f 96)) (m := (g 67)) (mK := (g 107)) hI.sky hI.sea
  refine zv_ald (ins := .aload_n 1) (len := 1) hB (by decide +kernel) rfl rfl rfl ?_
  refine zv_cv (i := 165) (c := 0) (mm2 := zxm191) (rm2 := (2, 120)) (va := []) (S := []) hB (zE_up (by rfl) (by rfl) (by rfl) (by rfl) (by rfl) (zo_X_keep e1)) (by decide +kernel) rfl rfl (by decide) (by decide) rfl ?_
  refine zv_pop hB (by decide +kernel) rfl ?_
  refine zv_ald (ins := .aload_n 2) (len := 1) hB (by decide +kernel) rfl rfl rfl ?_
  refine zv_cv (i := 168) (c := 1) (mm2 := zxm319) (rm2 := (1, 60)) (va := []) (S := []) hB (zE_up (by rfl) (by rfl) (by rfl) (by rfl) (by rfl) (zo_M_keep e2)) (by decide +kernel) rfl rfl (by decide) (by decide) rfl ?_
  refine zv_pop hB (by decide +kernel) rfl ?_
  refine zv_goto hB (off := 62) (t := 1593) (by decide +kernel) rfl ?_
  exact zw_tail hB i0 i6 hL (k _ _ ⟨hI.law, hI.sky, hI.sea, hI.tape, hI.tale, ⟨rfl, fun _ => ⟨k', z'⟩⟩, hI.so, hI.le, hI.ln⟩)
theorem zc_undo {good : Nat → List zNV → List zNV → List zNV → List (Int → Int) → Prop} {Lx : Nat} {xs : Nat → Int32} {i : Int} {f : Nat → Int} {g : Nat → Int → Int} (hL : Lx ≤ 3072) (hB : zw_B good) (hR : zw_R Lx xs good) (i0 : 0 ≤ i) (i6 : i + 6 ≤ Lx) (hI : zI f g) (k : ∀ f2 g2, zI f2 g2 → good 18 (zw_lc (i + 6)) [] (zE_F f2) (zE_G g2)) : good 1534 (zw_lc i) [] (zE_F f) (zE_G g) := by
  obtain ⟨L, R⟩ := hI.law
  have tl := zI_tl hI
  obtain ⟨v0, v1, v2, v3, v4, v5, v6, v7, v8, v9, v10, v11, v12, v13, v14, v15, v16, e1, e2, k', z'⟩ := yo_undo (t := (f 65)) (f2 := (f 0)) (h := (f 66)) (f4 := (f 1)) (u := (f 67)) (f6 := (f 28)) (cl := (f 68)) (f8 := (f 2)) (sc := (f 69)) (f10 := (f 3)) (sr := (f 70)) (f12 := (f 4)) (ch := (f 71)) (f14 := (f 48)) (ts := (f 72)) (f16 := (f 5)) (co := (g 60)) (g1 := (g 0)) (ro := (g 61)) (g3 := (g 1)) (br := (g 62)) (g5 := (g 2)) (wc := (g 63)) (g7 := (g 3)) (wr := (g 64)) (g9 := (g 4)) (gl := (g 65)) (g11 := (g 6)) (gp := (g 66)) (g13 := (g 5)) (mK := (g 107)) (m := (g 67)) (ik := (f 73)) hI.kept.2 hI.sky hI.sea
  rw [← hI.kept.1] at e2
  refine zv_ald (ins := .aload_n 1) (len := 1) hB (by decide +kernel) rfl rfl rfl ?_
  refine zv_cv (i := 169) (c := 0) (mm2 := zxm193) (rm2 := (2, 120)) (va := []) (S := []) hB (zE_up (by rfl) (by rfl) (by rfl) (by rfl) (by rfl) (zo_X_undo e1)) (by decide +kernel) rfl rfl (by decide) (by decide) rfl ?_
  refine zv_pop hB (by decide +kernel) rfl ?_
  refine zv_ald (ins := .aload_n 2) (len := 1) hB (by decide +kernel) rfl rfl rfl ?_
  refine zv_cv (i := 173) (c := 1) (mm2 := zxm320) (rm2 := (1, 60)) (va := []) (S := []) hB (zE_up (by rfl) (by rfl) (by rfl) (by rfl) (by rfl) (zo_M_undo e2)) (by decide +kernel) rfl rfl (by decide) (by decide) rfl ?_
  refine zv_pop hB (by decide +kernel) rfl ?_
  refine zv_goto hB (off := 49) (t := 1593) (by decide +kernel) rfl ?_
  exact zw_tail hB i0 i6 hL (k _ _ ⟨hI.law, k', z', hI.tape, hI.tale, hI.kept, hI.so, hI.le, hI.ln⟩)
theorem zc_check {good : Nat → List zNV → List zNV → List zNV → List (Int → Int) → Prop} {Lx : Nat} {xs : Nat → Int32} {i : Int} {f : Nat → Int} {g : Nat → Int → Int} (hL : Lx ≤ 3072) (hB : zw_B good) (hR : zw_R Lx xs good) (i0 : 0 ≤ i) (i6 : i + 6 ≤ Lx) (hI : zI f g) (k : ∀ f2 g2, zI f2 g2 → good 18 (zw_lc (i + 6)) [] (zE_F f2) (zE_G g2)) : good 1547 (zw_lc i) [] (zE_F f) (zE_G g) := by
  obtain ⟨L, R⟩ := hI.law
  have tl := zI_tl hI
  obtain ⟨v0, v1, v2, e1, e2, p'⟩ := yo_check (x := (zw_a xs i 1)) (n := (f 6)) (ts := (f 5)) (T := (g 7)) (gp := (g 5)) (n2 := (f 74)) (M := (g 68)) (m := (g 67)) hI.sea hI.tape
  refine zv_ald (ins := .aload_n 1) (len := 1) hB (by decide +kernel) rfl rfl rfl ?_
  refine zw_arg (j := 1) hB hR i0 i6 hL (by decide +kernel) (by decide) (by decide) rfl ?_
  refine zv_cv (i := 174) (c := 0) (mm2 := zxm194) (rm2 := (2, 120)) (va := [.inl (zw_a xs i 1)]) (S := []) hB (zE_up (by rfl) (by rfl) (by rfl) (by rfl) (by rfl) (zo_X_check e1)) (by decide +kernel) rfl rfl (by decide) (by decide) rfl ?_
  refine zv_pop hB (by decide +kernel) rfl ?_
  refine zv_ald (ins := .aload_n 2) (len := 1) hB (by decide +kernel) rfl rfl rfl ?_
  refine zw_arg (j := 1) hB hR i0 i6 hL (by decide +kernel) (by decide) (by decide) rfl ?_
  refine zv_cv (i := 177) (c := 1) (mm2 := zxm321) (rm2 := (2, 120)) (va := [.inl (zw_a xs i 1)]) (S := []) hB (zE_up (by rfl) (by rfl) (by rfl) (by rfl) (by rfl) (zo_M_check e2)) (by decide +kernel) rfl rfl (by decide) (by decide) rfl ?_
  refine zv_pop hB (by decide +kernel) rfl ?_
  refine zv_goto hB (off := 26) (t := 1593) (by decide +kernel) rfl ?_
  exact zw_tail hB i0 i6 hL (k _ _ ⟨hI.law, hI.sky, hI.sea, p', hI.tale, hI.kept, hI.so, hI.le, hI.ln⟩)
theorem zc_count {good : Nat → List zNV → List zNV → List zNV → List (Int → Int) → Prop} {Lx : Nat} {xs : Nat → Int32} {i : Int} {f : Nat → Int} {g : Nat → Int → Int} (hL : Lx ≤ 3072) (hB : zw_B good) (hR : zw_R Lx xs good) (i0 : 0 ≤ i) (i6 : i + 6 ≤ Lx) (hI : zI f g) (k : ∀ f2 g2, zI f2 g2 → good 18 (zw_lc (i + 6)) [] (zE_F f2) (zE_G g2)) : good 1570 (zw_lc i) [] (zE_F f) (zE_G g) := by
  obtain ⟨L, R⟩ := hI.law
  have tl := zI_tl hI
  obtain ⟨v0, v1, e1, e2, _⟩ := yo_count (n := (zw_a xs i 1)) (h := (f 1)) (u := (f 28)) (cl := (f 2)) (t := (f 0)) (ts := (f 5)) (ch := (f 48)) (sc := (f 3)) (sr := (f 4)) (gl := (g 6)) (gp := (g 5)) (m := (g 67)) (nc := (f 32)) (tl := (f 37)) (sz := (f 6)) hI.sky hI.sea
  have e2 : zf_M_count (zw_a xs i 1) (f 83) (f 88) (f 74) (g 67) = some v1 := by rw [show f 83 = f 32 from R.1.2.2.2, hI.tale.1, hI.tape.1]; exact e2
  refine zv_ald (ins := .aload_n 1) (len := 1) hB (by decide +kernel) rfl rfl rfl ?_
  refine zw_arg (j := 1) hB hR i0 i6 hL (by decide +kernel) (by decide) (by decide) rfl ?_
  refine zv_cv (i := 178) (c := 0) (mm2 := zxm196) (rm2 := (2, 120)) (va := [.inl (zw_a xs i 1)]) (S := []) hB (zE_up (by rfl) (by rfl) (by rfl) (by rfl) (by rfl) (zo_X_count e1)) (by decide +kernel) rfl rfl (by decide) (by decide) rfl ?_
  refine zv_pop hB (by decide +kernel) rfl ?_
  refine zv_ald (ins := .aload_n 2) (len := 1) hB (by decide +kernel) rfl rfl rfl ?_
  refine zw_arg (j := 1) hB hR i0 i6 hL (by decide +kernel) (by decide) (by decide) rfl ?_
  refine zv_cv (i := 181) (c := 1) (mm2 := zxm323) (rm2 := (2, 120)) (va := [.inl (zw_a xs i 1)]) (S := []) hB (zE_up (by rfl) (by rfl) (by rfl) (by rfl) (by rfl) (zo_M_count e2)) (by decide +kernel) rfl rfl (by decide) (by decide) rfl ?_
  refine zv_pop hB (by decide +kernel) rfl ?_
  refine zv_goto hB (off := 3) (t := 1593) (by decide +kernel) rfl ?_
  exact zw_tail hB i0 i6 hL (k _ _ ⟨hI.law, hI.sky, hI.sea, hI.tape, hI.tale, hI.kept, hI.so, hI.le, hI.ln⟩)
