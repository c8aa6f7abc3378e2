/-! 98d.calls, 98e.lawtale, 98f.lawcase, 98g.switch -/
section
/-! The calls of the law, case by case. -/
theorem zc_over {good : Nat → List zNV → List zNV → List zNV → List (Int → Int) → Prop} {Lx : Nat} {xs : Nat → Int32} {i : Int} {f : Nat → Int} {g : Nat → Int → Int} (hL : Lx ≤ 3072) (hB : zw_B good) (hR : zw_R Lx xs good) (i0 : 0 ≤ i) (i6 : i + 6 ≤ Lx) (hI : zI f g) (k : ∀ f2 g2, zI f2 g2 → good 18 (zw_lc (i + 6)) [] (zE_F f2) (zE_G g2)) : good 1432 (zw_lc i) [] (zE_F f) (zE_G g) := by
  obtain ⟨L, R⟩ := hI.law
  have tl := zI_tl hI
  obtain ⟨v0, e1, e2⟩ := yo_over (x := (zw_a xs i 1)) (y := (zw_a xs i 2)) (t := (f 0)) (ro := (g 1)) (co := (g 0)) (m := (g 67)) hI.sky
  refine zv_ald (ins := .aload_n 1) (len := 1) hB (by decide +kernel) rfl rfl rfl ?_
  refine zw_arg (j := 1) hB hR i0 i6 hL (by decide +kernel) (by decide) (by decide) rfl ?_
  refine zw_arg (j := 2) hB hR i0 i6 hL (by decide +kernel) (by decide) (by decide) rfl ?_
  refine zv_cv (i := 153) (c := 0) (mm2 := zxm187) (rm2 := (1, 60)) (va := [.inl (zw_a xs i 1), .inl (zw_a xs i 2)]) (S := []) hB (zE_up (by rfl) (by rfl) (by rfl) (by rfl) (by rfl) (zo_X_over e1)) (by decide +kernel) rfl rfl (by decide) (by decide) rfl ?_
  refine zv_pop hB (by decide +kernel) rfl ?_
  refine zv_ald (ins := .aload_n 2) (len := 1) hB (by decide +kernel) rfl rfl rfl ?_
  refine zw_arg (j := 1) hB hR i0 i6 hL (by decide +kernel) (by decide) (by decide) rfl ?_
  refine zw_arg (j := 2) hB hR i0 i6 hL (by decide +kernel) (by decide) (by decide) rfl ?_
  refine zv_cv (i := 156) (c := 1) (mm2 := zxm316) (rm2 := (2, 120)) (va := [.inl (zw_a xs i 1), .inl (zw_a xs i 2)]) (S := []) hB (zE_up (by rfl) (by rfl) (by rfl) (by rfl) (by rfl) (zo_M_over e2)) (by decide +kernel) rfl rfl (by decide) (by decide) rfl ?_
  refine zv_pop hB (by decide +kernel) rfl ?_
  refine zv_goto hB (off := 131) (t := 1593) (by decide +kernel) rfl ?_
  exact zw_tail hB i0 i6 hL (k _ _ ⟨hI.law, hI.sky, hI.sea, hI.tape, hI.tale, hI.kept, hI.so, hI.le, hI.ln⟩)
theorem zc_home {good : Nat → List zNV → List zNV → List zNV → List (Int → Int) → Prop} {Lx : Nat} {xs : Nat → Int32} {i : Int} {f : Nat → Int} {g : Nat → Int → Int} (hL : Lx ≤ 3072) (hB : zw_B good) (hR : zw_R Lx xs good) (i0 : 0 ≤ i) (i6 : i + 6 ≤ Lx) (hI : zI f g) (k : ∀ f2 g2, zI f2 g2 → good 18 (zw_lc (i + 6)) [] (zE_F f2) (zE_G g2)) : good 1465 (zw_lc i) [] (zE_F f) (zE_G g) := by
  obtain ⟨L, R⟩ := hI.law
  have tl := zI_tl hI
  obtain ⟨v0, v1, v2, v3, v4, v5, v6, v7, v8, v9, v10, v11, v12, v13, v14, v15, v16, v17, v18, v19, v20, v21, v22, v23, v24, v25, v26, v27, v28, v29, v30, v31, v32, v33, v34, v35, v36, v37, v38, e1, e2, fr⟩ := yo_home (x := (zw_a xs i 1)) (y := (zw_a xs i 2)) (f3 := (f 25)) (f4 := (f 26)) (f5 := (f 27)) (h := (f 1)) (u := (f 28)) (f8 := (f 29)) (t := (f 0)) (sc := (f 3)) (sr := (f 4)) (cl := (f 2)) (tS := (f 30)) (f14 := (f 31)) (nc := (f 32)) (f16 := (f 33)) (sP := (f 34)) (tL := (f 35)) (lP := (f 36)) (f20 := (f 42)) (f21 := (f 43)) (f22 := (f 44)) (f23 := (f 45)) (f24 := (f 46)) (f25 := (f 47)) (ch := (f 48)) (f27 := (f 49)) (f30 := (f 59)) (f31 := (f 60)) (f32 := (f 61)) (f33 := (f 62)) (f34 := (f 63)) (g0 := (g 15)) (g1 := (g 16)) (co := (g 0)) (ro := (g 1)) (br := (g 2)) (kd := (g 17)) (hf := (g 18)) (to := (g 19)) (K := (g 20)) (g9 := (g 21)) (V := (g 22)) (g11 := (g 23)) (g12 := (g 24)) (g13 := (g 29)) (g14 := (g 30)) (g15 := (g 31)) (wc := (g 3)) (g17 := (g 32)) (wr := (g 4)) (g19 := (g 33)) (g20 := (g 56)) (g21 := (g 57)) (g22 := (g 58)) (mc := (f 83)) (f1 := (f 84)) (m := (g 67)) (mk := (g 76)) (h2 := (g 80)) (mh := (g 78)) (mt := (g 79)) (C := (g 75)) (h6 := (g 81)) (h7 := (g 82)) (h8 := (g 103)) (h9 := (g 99)) R hI.sky
  refine zv_ald (ins := .aload_n 1) (len := 1) hB (by decide +kernel) rfl rfl rfl ?_
  refine zw_arg (j := 1) hB hR i0 i6 hL (by decide +kernel) (by decide) (by decide) rfl ?_
  refine zw_arg (j := 2) hB hR i0 i6 hL (by decide +kernel) (by decide) (by decide) rfl ?_
  refine zv_cv (i := 157) (c := 0) (mm2 := zxm188) (rm2 := (6, 360)) (va := [.inl (zw_a xs i 1), .inl (zw_a xs i 2)]) (S := []) hB (zE_up (by rfl) (by rfl) (by rfl) (by rfl) (by rfl) (zo_X_home e1)) (by decide +kernel) rfl rfl (by decide) (by decide) rfl ?_
  refine zv_pop hB (by decide +kernel) rfl ?_
  refine zv_ald (ins := .aload_n 2) (len := 1) hB (by decide +kernel) rfl rfl rfl ?_
  refine zw_arg (j := 1) hB hR i0 i6 hL (by decide +kernel) (by decide) (by decide) rfl ?_
  refine zw_arg (j := 2) hB hR i0 i6 hL (by decide +kernel) (by decide) (by decide) rfl ?_
  refine zv_cv (i := 160) (c := 1) (mm2 := zxm317) (rm2 := (6, 360)) (va := [.inl (zw_a xs i 1), .inl (zw_a xs i 2)]) (S := []) hB (zE_up (by rfl) (by rfl) (by rfl) (by rfl) (by rfl) (zo_M_home e2)) (by decide +kernel) rfl rfl (by decide) (by decide) rfl ?_
  refine zv_pop hB (by decide +kernel) rfl ?_
  refine zv_goto hB (off := 98) (t := 1593) (by decide +kernel) rfl ?_
  exact zw_tail hB i0 i6 hL (k _ _ ⟨hI.law, zI_sky hI fr, zI_sea hI fr, hI.tape, hI.tale, hI.kept, hI.so, hI.le, hI.ln⟩)
theorem zc_seed {good : Nat → List zNV → List zNV → List zNV → List (Int → Int) → Prop} {Lx : Nat} {xs : Nat → Int32} {i : Int} {f : Nat → Int} {g : Nat → Int → Int} (hL : Lx ≤ 3072) (hB : zw_B good) (hR : zw_R Lx xs good) (i0 : 0 ≤ i) (i6 : i + 6 ≤ Lx) (hI : zI f g) (k : ∀ f2 g2, zI f2 g2 → good 18 (zw_lc (i + 6)) [] (zE_F f2) (zE_G g2)) : good 1498 (zw_lc i) [] (zE_F f) (zE_G g) := by
  obtain ⟨L, R⟩ := hI.law
  have tl := zI_tl hI
  obtain ⟨v0, v1, v2, e1, e2, k', fr⟩ := yo_seed (n := (zw_a xs i 1)) (ch := (f 48)) (m := (g 67)) hI.sky
  refine zv_ald (ins := .aload_n 1) (len := 1) hB (by decide +kernel) rfl rfl rfl ?_
  refine zw_arg (j := 1) hB hR i0 i6 hL (by decide +kernel) (by decide) (by decide) rfl ?_
  refine zv_cv (i := 161) (c := 0) (mm2 := zxm190) (rm2 := (1, 60)) (va := [.inl (zw_a xs i 1)]) (S := []) hB (zE_up (by rfl) (by rfl) (by rfl) (by rfl) (by rfl) (zo_X_seed e1)) (by decide +kernel) rfl rfl (by decide) (by decide) rfl ?_
  refine zv_pop hB (by decide +kernel) rfl ?_
  refine zv_ald (ins := .aload_n 2) (len := 1) hB (by decide +kernel) rfl rfl rfl ?_
  refine zw_arg (j := 1) hB hR i0 i6 hL (by decide +kernel) (by decide) (by decide) rfl ?_
  refine zv_cv (i := 164) (c := 1) (mm2 := zxm318) (rm2 := (1, 60)) (va := [.inl (zw_a xs i 1)]) (S := []) hB (zE_up (by rfl) (by rfl) (by rfl) (by rfl) (by rfl) (zo_M_seed e2)) (by decide +kernel) rfl rfl (by decide) (by decide) rfl ?_
  refine zv_pop hB (by decide +kernel) rfl ?_
  refine zv_goto hB (off := 75) (t := 1593) (by decide +kernel) rfl ?_
  exact zw_tail hB i0 i6 hL (k _ _ ⟨hI.law, k', yk_sea_fr hI.sea fun j hj => fr j (by omega), hI.tape, hI.tale, hI.kept, hI.so, hI.le, hI.ln⟩)
theorem zc_keep {good : Nat → List zNV → List zNV → List zNV → List (Int → Int) → Prop} {Lx : Nat} {xs : Nat → Int32} {i : Int} {f : Nat → Int} {g : Nat → Int → Int} (hL : Lx ≤ 3072) (hB : zw_B good) (hR : zw_R Lx xs good) (i0 : 0 ≤ i) (i6 : i + 6 ≤ Lx) (hI : zI f g) (k : ∀ f2 g2, zI f2 g2 → good 18 (zw_lc (i + 6)) [] (zE_F f2) (zE_G g2)) : good 1521 (zw_lc i) [] (zE_F f) (zE_G g) := by
  obtain ⟨L, R⟩ := hI.law
  have tl := zI_tl hI
  obtain ⟨v0, v1, v2, v3, v4, v5, v6, v7, v8, e1, e2, k', z'⟩ := yo_keep (t := (f 0)) (f1 := (f 65)) (h := (f 1)) (f3 := (f 66)) (u := (f 28)) (f5 := (f 67)) (cl := (f 2)) (f7 := (f 68)) (sc := (f 3)) (f9 := (f 69)) (sr := (f 4)) (f11 := (f 70)) (ch := (f 48)) (f13 := (f 71)) (ts := (f 5)) (f15 := (f 72)) (f16 := (f 73)) (co := (g 0)) (g1 := (g 60)) (ro := (g 1)) (g3 := (g 61)) (br := (g 2)) (g5 := (g 62)) (wc := (g 3)) (g7 := (g 63)) (wr := (g 4)) (g9 := (g 64)) (gl := (g 6)) (g11 := (g 65)) (gp := (g 5)) (g13 := (g 66)) (f0 := (f 96)) (m := (g 67)) (mK := (g 107)) hI.sky hI.sea
  refine zv_ald (ins := .aload_n 1) (len := 1) hB (by decide +kernel) rfl rfl rfl ?_
  refine zv_cv (i := 165) (c := 0) (mm2 := zxm191) (rm2 := (2, 120)) (va := []) (S := []) hB (zE_up (by rfl) (by rfl) (by rfl) (by rfl) (by rfl) (zo_X_keep e1)) (by decide +kernel) rfl rfl (by decide) (by decide) rfl ?_
  refine zv_pop hB (by decide +kernel) rfl ?_
  refine zv_ald (ins := .aload_n 2) (len := 1) hB (by decide +kernel) rfl rfl rfl ?_
  refine zv_cv (i := 168) (c := 1) (mm2 := zxm319) (rm2 := (1, 60)) (va := []) (S := []) hB (zE_up (by rfl) (by rfl) (by rfl) (by rfl) (by rfl) (zo_M_keep e2)) (by decide +kernel) rfl rfl (by decide) (by decide) rfl ?_
  refine zv_pop hB (by decide +kernel) rfl ?_
  refine zv_goto hB (off := 62) (t := 1593) (by decide +kernel) rfl ?_
  exact zw_tail hB i0 i6 hL (k _ _ ⟨hI.law, hI.sky, hI.sea, hI.tape, hI.tale, ⟨rfl, fun _ => ⟨k', z'⟩⟩, hI.so, hI.le, hI.ln⟩)
theorem zc_undo {good : Nat → List zNV → List zNV → List zNV → List (Int → Int) → Prop} {Lx : Nat} {xs : Nat → Int32} {i : Int} {f : Nat → Int} {g : Nat → Int → Int} (hL : Lx ≤ 3072) (hB : zw_B good) (hR : zw_R Lx xs good) (i0 : 0 ≤ i) (i6 : i + 6 ≤ Lx) (hI : zI f g) (k : ∀ f2 g2, zI f2 g2 → good 18 (zw_lc (i + 6)) [] (zE_F f2) (zE_G g2)) : good 1534 (zw_lc i) [] (zE_F f) (zE_G g) := by
  obtain ⟨L, R⟩ := hI.law
  have tl := zI_tl hI
  obtain ⟨v0, v1, v2, v3, v4, v5, v6, v7, v8, v9, v10, v11, v12, v13, v14, v15, v16, e1, e2, k', z'⟩ := yo_undo (t := (f 65)) (f2 := (f 0)) (h := (f 66)) (f4 := (f 1)) (u := (f 67)) (f6 := (f 28)) (cl := (f 68)) (f8 := (f 2)) (sc := (f 69)) (f10 := (f 3)) (sr := (f 70)) (f12 := (f 4)) (ch := (f 71)) (f14 := (f 48)) (ts := (f 72)) (f16 := (f 5)) (co := (g 60)) (g1 := (g 0)) (ro := (g 61)) (g3 := (g 1)) (br := (g 62)) (g5 := (g 2)) (wc := (g 63)) (g7 := (g 3)) (wr := (g 64)) (g9 := (g 4)) (gl := (g 65)) (g11 := (g 6)) (gp := (g 66)) (g13 := (g 5)) (mK := (g 107)) (m := (g 67)) (ik := (f 73)) hI.kept.2 hI.sky hI.sea
  rw [← hI.kept.1] at e2
  refine zv_ald (ins := .aload_n 1) (len := 1) hB (by decide +kernel) rfl rfl rfl ?_
  refine zv_cv (i := 169) (c := 0) (mm2 := zxm193) (rm2 := (2, 120)) (va := []) (S := []) hB (zE_up (by rfl) (by rfl) (by rfl) (by rfl) (by rfl) (zo_X_undo e1)) (by decide +kernel) rfl rfl (by decide) (by decide) rfl ?_
  refine zv_pop hB (by decide +kernel) rfl ?_
  refine zv_ald (ins := .aload_n 2) (len := 1) hB (by decide +kernel) rfl rfl rfl ?_
  refine zv_cv (i := 173) (c := 1) (mm2 := zxm320) (rm2 := (1, 60)) (va := []) (S := []) hB (zE_up (by rfl) (by rfl) (by rfl) (by rfl) (by rfl) (zo_M_undo e2)) (by decide +kernel) rfl rfl (by decide) (by decide) rfl ?_
  refine zv_pop hB (by decide +kernel) rfl ?_
  refine zv_goto hB (off := 49) (t := 1593) (by decide +kernel) rfl ?_
  exact zw_tail hB i0 i6 hL (k _ _ ⟨hI.law, k', z', hI.tape, hI.tale, hI.kept, hI.so, hI.le, hI.ln⟩)
theorem zc_check {good : Nat → List zNV → List zNV → List zNV → List (Int → Int) → Prop} {Lx : Nat} {xs : Nat → Int32} {i : Int} {f : Nat → Int} {g : Nat → Int → Int} (hL : Lx ≤ 3072) (hB : zw_B good) (hR : zw_R Lx xs good) (i0 : 0 ≤ i) (i6 : i + 6 ≤ Lx) (hI : zI f g) (k : ∀ f2 g2, zI f2 g2 → good 18 (zw_lc (i + 6)) [] (zE_F f2) (zE_G g2)) : good 1547 (zw_lc i) [] (zE_F f) (zE_G g) := by
  obtain ⟨L, R⟩ := hI.law
  have tl := zI_tl hI
  obtain ⟨v0, v1, v2, e1, e2, p'⟩ := yo_check (x := (zw_a xs i 1)) (n := (f 6)) (ts := (f 5)) (T := (g 7)) (gp := (g 5)) (n2 := (f 74)) (M := (g 68)) (m := (g 67)) hI.sea hI.tape
  refine zv_ald (ins := .aload_n 1) (len := 1) hB (by decide +kernel) rfl rfl rfl ?_
  refine zw_arg (j := 1) hB hR i0 i6 hL (by decide +kernel) (by decide) (by decide) rfl ?_
  refine zv_cv (i := 174) (c := 0) (mm2 := zxm194) (rm2 := (2, 120)) (va := [.inl (zw_a xs i 1)]) (S := []) hB (zE_up (by rfl) (by rfl) (by rfl) (by rfl) (by rfl) (zo_X_check e1)) (by decide +kernel) rfl rfl (by decide) (by decide) rfl ?_
  refine zv_pop hB (by decide +kernel) rfl ?_
  refine zv_ald (ins := .aload_n 2) (len := 1) hB (by decide +kernel) rfl rfl rfl ?_
  refine zw_arg (j := 1) hB hR i0 i6 hL (by decide +kernel) (by decide) (by decide) rfl ?_
  refine zv_cv (i := 177) (c := 1) (mm2 := zxm321) (rm2 := (2, 120)) (va := [.inl (zw_a xs i 1)]) (S := []) hB (zE_up (by rfl) (by rfl) (by rfl) (by rfl) (by rfl) (zo_M_check e2)) (by decide +kernel) rfl rfl (by decide) (by decide) rfl ?_
  refine zv_pop hB (by decide +kernel) rfl ?_
  refine zv_goto hB (off := 26) (t := 1593) (by decide +kernel) rfl ?_
  exact zw_tail hB i0 i6 hL (k _ _ ⟨hI.law, hI.sky, hI.sea, p', hI.tale, hI.kept, hI.so, hI.le, hI.ln⟩)
theorem zc_count {good : Nat → List zNV → List zNV → List zNV → List (Int → Int) → Prop} {Lx : Nat} {xs : Nat → Int32} {i : Int} {f : Nat → Int} {g : Nat → Int → Int} (hL : Lx ≤ 3072) (hB : zw_B good) (hR : zw_R Lx xs good) (i0 : 0 ≤ i) (i6 : i + 6 ≤ Lx) (hI : zI f g) (k : ∀ f2 g2, zI f2 g2 → good 18 (zw_lc (i + 6)) [] (zE_F f2) (zE_G g2)) : good 1570 (zw_lc i) [] (zE_F f) (zE_G g) := by
  obtain ⟨L, R⟩ := hI.law
  have tl := zI_tl hI
  obtain ⟨v0, v1, e1, e2, _⟩ := yo_count (n := (zw_a xs i 1)) (h := (f 1)) (u := (f 28)) (cl := (f 2)) (t := (f 0)) (ts := (f 5)) (ch := (f 48)) (sc := (f 3)) (sr := (f 4)) (gl := (g 6)) (gp := (g 5)) (m := (g 67)) (nc := (f 32)) (tl := (f 37)) (sz := (f 6)) hI.sky hI.sea
  have e2 : zf_M_count (zw_a xs i 1) (f 83) (f 88) (f 74) (g 67) = some v1 := by rw [show f 83 = f 32 from R.1.2.2.2, hI.tale.1, hI.tape.1]; exact e2
  refine zv_ald (ins := .aload_n 1) (len := 1) hB (by decide +kernel) rfl rfl rfl ?_
  refine zw_arg (j := 1) hB hR i0 i6 hL (by decide +kernel) (by decide) (by decide) rfl ?_
  refine zv_cv (i := 178) (c := 0) (mm2 := zxm196) (rm2 := (2, 120)) (va := [.inl (zw_a xs i 1)]) (S := []) hB (zE_up (by rfl) (by rfl) (by rfl) (by rfl) (by rfl) (zo_X_count e1)) (by decide +kernel) rfl rfl (by decide) (by decide) rfl ?_
  refine zv_pop hB (by decide +kernel) rfl ?_
  refine zv_ald (ins := .aload_n 2) (len := 1) hB (by decide +kernel) rfl rfl rfl ?_
  refine zw_arg (j := 1) hB hR i0 i6 hL (by decide +kernel) (by decide) (by decide) rfl ?_
  refine zv_cv (i := 181) (c := 1) (mm2 := zxm323) (rm2 := (2, 120)) (va := [.inl (zw_a xs i 1)]) (S := []) hB (zE_up (by rfl) (by rfl) (by rfl) (by rfl) (by rfl) (zo_M_count e2)) (by decide +kernel) rfl rfl (by decide) (by decide) rfl ?_
  refine zv_pop hB (by decide +kernel) rfl ?_
  refine zv_goto hB (off := 3) (t := 1593) (by decide +kernel) rfl ?_
  exact zw_tail hB i0 i6 hL (k _ _ ⟨hI.law, hI.sky, hI.sea, hI.tape, hI.tale, hI.kept, hI.so, hI.le, hI.ln⟩)
end
section
/-! law, tale: the calls over names. -/
theorem zE_X_law {f : Nat → Int} {g : Nat → Int → Int} {x1 : Int} {o : Int × Int × Int × Int × Int × Int × Int × Int × Int × Int × Int × (Int → Int) × (Int → Int) × (Int → Int) × (Int → Int) × (Int → Int) × (Int → Int) × Nat × Nat} (h : zf_X_law x1 (f 6) (f 9) (f 10) (f 11) (f 13) (f 14) (f 15) (f 16) (f 17) (f 18) (g 7) (g 8) (g 9) (g 10) (g 11) (g 12) (g 13) = some o) : zv_Fn z_TB z_cl z_KX zyE zxm34 (81, 4860) [.inr 0, .inl x1] (zE_F f) (zE_G g) (some o.1) (zE_Fr (zv_rc [0, 11, 13, 14, 12, 15, 16, 17, 18, 19, 20, 21] o.2.2.2.2.2.2.2.2.2.2.2.2.2.2.2.2.2.1) (zv_rc [0, 11, 13, 14, 12, 15, 16, 17, 18, 19, 20, 21] o.2.2.2.2.2.2.2.2.2.2.2.2.2.2.2.2.2.2) 1000 22 24 1000 1000 1000 1000 1000 1000 (zL_u [(6, o.2.1), (9, o.2.2.1), (10, o.2.2.2.1), (11, o.2.2.2.2.1), (13, o.2.2.2.2.2.1), (14, o.2.2.2.2.2.2.1), (15, o.2.2.2.2.2.2.2.1), (16, o.2.2.2.2.2.2.2.2.1), (17, o.2.2.2.2.2.2.2.2.2.1), (18, o.2.2.2.2.2.2.2.2.2.2.1)] f)) (zE_G (zL_w [(8, o.2.2.2.2.2.2.2.2.2.2.2.1), (9, o.2.2.2.2.2.2.2.2.2.2.2.2.1), (10, o.2.2.2.2.2.2.2.2.2.2.2.2.2.1), (11, o.2.2.2.2.2.2.2.2.2.2.2.2.2.2.1), (12, o.2.2.2.2.2.2.2.2.2.2.2.2.2.2.2.1), (13, o.2.2.2.2.2.2.2.2.2.2.2.2.2.2.2.2.1)] g)) := zv_emq (va2 := [.inr 0, .inl x1]) (F := zE_F f) (F' := zE_Fr (zv_rc [0, 11, 13, 14, 12, 15, 16, 17, 18, 19, 20, 21] o.2.2.2.2.2.2.2.2.2.2.2.2.2.2.2.2.2.1) (zv_rc [0, 11, 13, 14, 12, 15, 16, 17, 18, 19, 20, 21] o.2.2.2.2.2.2.2.2.2.2.2.2.2.2.2.2.2.2) 1000 22 24 1000 1000 1000 1000 1000 1000 (zL_u [(6, o.2.1), (9, o.2.2.1), (10, o.2.2.2.1), (11, o.2.2.2.2.1), (13, o.2.2.2.2.2.1), (14, o.2.2.2.2.2.2.1), (15, o.2.2.2.2.2.2.2.1), (16, o.2.2.2.2.2.2.2.2.1), (17, o.2.2.2.2.2.2.2.2.2.1), (18, o.2.2.2.2.2.2.2.2.2.2.1)] f)) (G := zE_G g) (G' := zE_G (zL_w [(8, o.2.2.2.2.2.2.2.2.2.2.2.1), (9, o.2.2.2.2.2.2.2.2.2.2.2.2.1), (10, o.2.2.2.2.2.2.2.2.2.2.2.2.2.1), (11, o.2.2.2.2.2.2.2.2.2.2.2.2.2.2.1), (12, o.2.2.2.2.2.2.2.2.2.2.2.2.2.2.2.1), (13, o.2.2.2.2.2.2.2.2.2.2.2.2.2.2.2.2.1)] g)) (ρ := [0, 11, 13, 14, 12, 15, 16, 17, 18, 19, 20, 21]) (φ := [6, 7, 9, 10, 11, 12, 13, 14, 15, 16, 17, 18, 8]) (ψ := [7, 8, 9, 10, 11, 12, 13]) [none, none, none, none, none, none, some 0, some 1, some 12, some 2, some 3, some 4, some 5, some 6, some 7, some 8, some 9, some 10, some 11, none, none, none, none, none, none, none, none, none, none, none, none, none, none, none, none, none, none, none, none, none, none, none, none, none, none, none, none, none, none, none, none, none, none, none, none, none, none, none, none, none, none, none, none, none, none, none, none, none, none, none, none, none, none, none, none, none, none, none, none, none, none, none, none, none, none, none, none, none, none, none, none, none, none, none, none, none, none, none, none] [none, none, none, none, none, none, none, some 0, some 1, some 2, some 3, some 4, some 5, some 6, none, none, none, none, none, none, none, none, none, none, none, none, none, none, none, none, none, none, none, none, none, none, none, none, none, none, none, none, none, none, none, none, none, none, none, none, none, none, none, none, none, none, none, none, none, none, none, none, none, none, none, none, none, none, none, none, none, none, none, none, none, none, none, none, none, none, none, none, none, none, none, none, none, none, none, none, none, none, none, none, none, none, none, none, none, none, none, none, none, none, none, none, none, none, none, none] zyw_X_law zywE zyeE (by decide +kernel) (zt_X_law h) ⟨⟨_, rfl, fun _ => rfl⟩, ⟨_, rfl, fun _ => rfl⟩, ⟨_, rfl, fun _ => rfl⟩, ⟨_, rfl, fun _ => rfl⟩, ⟨_, rfl, fun _ => rfl⟩, ⟨_, rfl, fun (h : zv_is (.inr 1000)) => (Nat.lt_irrefl 1000 h).elim⟩, ⟨_, rfl, fun _ => rfl⟩, ⟨_, rfl, fun _ => rfl⟩, ⟨_, rfl, fun _ => rfl⟩, ⟨_, rfl, fun _ => rfl⟩, ⟨_, rfl, fun _ => rfl⟩, ⟨_, rfl, fun _ => rfl⟩, ⟨_, rfl, fun _ => rfl⟩, trivial⟩ ⟨rfl, rfl, rfl, rfl, rfl, rfl, rfl, trivial⟩ rfl rfl rfl rfl rfl rfl rfl
theorem zE_X_tale {f : Nat → Int} {g : Nat → Int → Int} {x1 : Int} {o : Int × Int × Int × Int × (Int → Int) × Nat × Nat} (h : zf_X_tale x1 (f 6) (f 21) (f 22) (g 7) (g 14) = some o) : zv_Fn z_TB z_cl z_KX zyE zxm76 (2, 120) [.inr 0, .inl x1] (zE_F f) (zE_G g) (some o.1) (zE_Fr 14 21 1000 (zv_rc [0, 11, 22, 12, 23, 24] o.2.2.2.2.2.1) (zv_rc [0, 11, 22, 12, 23, 24] o.2.2.2.2.2.2) 1000 1000 1000 1000 1000 1000 (zL_u [(6, o.2.1), (21, o.2.2.1), (22, o.2.2.2.1)] f)) (zE_G (zL_w [(14, o.2.2.2.2.1)] g)) := zv_emq (va2 := [.inr 0, .inl x1]) (F := zE_F f) (F' := zE_Fr 14 21 1000 (zv_rc [0, 11, 22, 12, 23, 24] o.2.2.2.2.2.1) (zv_rc [0, 11, 22, 12, 23, 24] o.2.2.2.2.2.2) 1000 1000 1000 1000 1000 1000 (zL_u [(6, o.2.1), (21, o.2.2.1), (22, o.2.2.2.1)] f)) (G := zE_G g) (G' := zE_G (zL_w [(14, o.2.2.2.2.1)] g)) (ρ := [0, 11, 22, 12, 23, 24]) (φ := [6, 19, 21, 22, 20]) (ψ := [7, 14]) [none, none, none, none, none, none, some 0, none, none, none, none, none, none, none, none, none, none, none, none, some 1, some 4, some 2, some 3, none, none, none, none, none, none, none, none, none, none, none, none, none, none, none, none, none, none, none, none, none, none, none, none, none, none, none, none, none, none, none, none, none, none, none, none, none, none, none, none, none, none, none, none, none, none, none, none, none, none, none, none, none, none, none, none, none, none, none, none, none, none, none, none, none, none, none, none, none, none, none, none, none, none, none, none] [none, none, none, none, none, none, none, some 0, none, none, none, none, none, none, some 1, none, none, none, none, none, none, none, none, none, none, none, none, none, none, none, none, none, none, none, none, none, none, none, none, none, none, none, none, none, none, none, none, none, none, none, none, none, none, none, none, none, none, none, none, none, none, none, none, none, none, none, none, none, none, none, none, none, none, none, none, none, none, none, none, none, none, none, none, none, none, none, none, none, none, none, none, none, none, none, none, none, none, none, none, none, none, none, none, none, none, none, none, none, none, none] zyw_X_tale zywE zyeE (by decide +kernel) (zt_X_tale h) ⟨⟨_, rfl, fun _ => rfl⟩, ⟨_, rfl, fun _ => rfl⟩, ⟨_, rfl, fun _ => rfl⟩, ⟨_, rfl, fun _ => rfl⟩, ⟨_, rfl, fun _ => rfl⟩, trivial⟩ ⟨rfl, rfl, trivial⟩ rfl rfl rfl rfl rfl rfl rfl
theorem zE_M_law {r0 r1 r3 r4 : Nat} {f : Nat → Int} {g : Nat → Int → Int} {x1 : Int} {o : Int × Int × Int × Int × Int × Int × Int × Int × Int × Int × Int × (Int → Int) × (Int → Int) × (Int → Int) × (Int → Int) × (Int → Int) × (Int → Int) × (Int → Int) × (Int → Int) × (Int → Int) × (Int → Int) × (Int → Int)} (h : zf_M_law x1 (f 74) (f 75) (f 76) (f 77) (f 78) (f 79) (f 80) (f 81) (f 82) (f 83) (g 68) (g 69) (g 70) (g 71) (g 72) (g 73) (g 74) (g 75) (g 76) (g 77) (g 78) (g 79) = some o) : zv_Fn z_TB z_cl z_KX zyE zxm215 (8, 480) [.inr 1, .inl x1] (zE_Fr r0 r1 1000 r3 r4 1000 1000 1000 1000 1000 1000 f) (zE_G g) (some o.1) (zE_Fr r0 r1 1000 r3 r4 1000 1000 1000 1000 1000 1000 (zL_u [(74, o.2.1), (75, o.2.2.1), (76, o.2.2.2.1), (77, o.2.2.2.2.1), (78, o.2.2.2.2.2.1), (79, o.2.2.2.2.2.2.1), (80, o.2.2.2.2.2.2.2.1), (81, o.2.2.2.2.2.2.2.2.1), (82, o.2.2.2.2.2.2.2.2.2.1), (83, o.2.2.2.2.2.2.2.2.2.2.1)] f)) (zE_G (zL_w [(69, o.2.2.2.2.2.2.2.2.2.2.2.1), (70, o.2.2.2.2.2.2.2.2.2.2.2.2.1), (71, o.2.2.2.2.2.2.2.2.2.2.2.2.2.1), (72, o.2.2.2.2.2.2.2.2.2.2.2.2.2.2.1), (73, o.2.2.2.2.2.2.2.2.2.2.2.2.2.2.2.1), (74, o.2.2.2.2.2.2.2.2.2.2.2.2.2.2.2.2.1), (75, o.2.2.2.2.2.2.2.2.2.2.2.2.2.2.2.2.2.1), (76, o.2.2.2.2.2.2.2.2.2.2.2.2.2.2.2.2.2.2.1), (77, o.2.2.2.2.2.2.2.2.2.2.2.2.2.2.2.2.2.2.2.1), (78, o.2.2.2.2.2.2.2.2.2.2.2.2.2.2.2.2.2.2.2.2.1), (79, o.2.2.2.2.2.2.2.2.2.2.2.2.2.2.2.2.2.2.2.2.2)] g)) := (zv_emq (va2 := [.inr 1, .inl x1]) (F := zE_Fr r0 r1 1000 r3 r4 1000 1000 1000 1000 1000 1000 f) (F' := (zE_Fr r0 r1 1000 r3 r4 1000 1000 1000 1000 1000 1000 (zL_u [(74, o.2.1), (75, o.2.2.1), (76, o.2.2.2.1), (77, o.2.2.2.2.1), (78, o.2.2.2.2.2.1), (79, o.2.2.2.2.2.2.1), (80, o.2.2.2.2.2.2.2.1), (81, o.2.2.2.2.2.2.2.2.1), (82, o.2.2.2.2.2.2.2.2.2.1), (83, o.2.2.2.2.2.2.2.2.2.2.1)] f))) (G := zE_G g) (G' := (zE_G (zL_w [(69, o.2.2.2.2.2.2.2.2.2.2.2.1), (70, o.2.2.2.2.2.2.2.2.2.2.2.2.1), (71, o.2.2.2.2.2.2.2.2.2.2.2.2.2.1), (72, o.2.2.2.2.2.2.2.2.2.2.2.2.2.2.1), (73, o.2.2.2.2.2.2.2.2.2.2.2.2.2.2.2.1), (74, o.2.2.2.2.2.2.2.2.2.2.2.2.2.2.2.2.1), (75, o.2.2.2.2.2.2.2.2.2.2.2.2.2.2.2.2.2.1), (76, o.2.2.2.2.2.2.2.2.2.2.2.2.2.2.2.2.2.2.1), (77, o.2.2.2.2.2.2.2.2.2.2.2.2.2.2.2.2.2.2.2.1), (78, o.2.2.2.2.2.2.2.2.2.2.2.2.2.2.2.2.2.2.2.2.1), (79, o.2.2.2.2.2.2.2.2.2.2.2.2.2.2.2.2.2.2.2.2.2)] g))) (ρ := [1, 87, 88, 89, 90, 91, 92, 93, 94, 95, 96, 97, 98]) (φ := [74, 75, 76, 77, 78, 79, 80, 81, 82, 83]) (ψ := [68, 69, 70, 71, 72, 73, 74, 75, 76, 77, 78, 79]) [none, none, none, none, none, none, none, none, none, none, none, none, none, none, none, none, none, none, none, none, none, none, none, none, none, none, none, none, none, none, none, none, none, none, none, none, none, none, none, none, none, none, none, none, none, none, none, none, none, none, none, none, none, none, none, none, none, none, none, none, none, none, none, none, none, none, none, none, none, none, none, none, none, none, some 0, some 1, some 2, some 3, some 4, some 5, some 6, some 7, some 8, some 9, none, none, none, none, none, none, none, none, none, none, none, none, none, none, none] [none, none, none, none, none, none, none, none, none, none, none, none, none, none, none, none, none, none, none, none, none, none, none, none, none, none, none, none, none, none, none, none, none, none, none, none, none, none, none, none, none, none, none, none, none, none, none, none, none, none, none, none, none, none, none, none, none, none, none, none, none, none, none, none, none, none, none, none, some 0, some 1, some 2, some 3, some 4, some 5, some 6, some 7, some 8, some 9, some 10, some 11, none, none, none, none, none, none, none, none, none, none, none, none, none, none, none, none, none, none, none, none, none, none, none, none, none, none, none, none, none, none] zyw_M_law zywE zyeE (by decide +kernel) (zt_M_law h) ⟨⟨_, rfl, fun _ => rfl⟩, ⟨_, rfl, fun _ => rfl⟩, ⟨_, rfl, fun _ => rfl⟩, ⟨_, rfl, fun _ => rfl⟩, ⟨_, rfl, fun _ => rfl⟩, ⟨_, rfl, fun _ => rfl⟩, ⟨_, rfl, fun _ => rfl⟩, ⟨_, rfl, fun _ => rfl⟩, ⟨_, rfl, fun _ => rfl⟩, ⟨_, rfl, fun _ => rfl⟩, trivial⟩ ⟨rfl, rfl, rfl, rfl, rfl, rfl, rfl, rfl, rfl, rfl, rfl, rfl, trivial⟩ rfl rfl rfl rfl rfl rfl rfl)
theorem zE_M_tale {r0 r1 r3 r4 : Nat} {f : Nat → Int} {g : Nat → Int → Int} {x1 : Int} {o : Int × Int × Int × Int × Int × Int × Int × Int × (Int → Int) × (Int → Int) × (Int → Int) × (Int → Int)} (h : zf_M_tale x1 (f 74) (f 75) (f 76) (f 87) (f 81) (f 88) (f 89) (g 68) (g 83) (g 84) (g 85) (g 86) = some o) : zv_Fn z_TB z_cl z_KX zyE zxm263 (3, 180) [.inr 1, .inl x1] (zE_Fr r0 r1 1000 r3 r4 1000 1000 1000 1000 1000 1000 f) (zE_G g) (some o.1) (zE_Fr r0 r1 1000 r3 r4 1000 1000 1000 1000 1000 1000 (zL_u [(74, o.2.1), (75, o.2.2.1), (76, o.2.2.2.1), (87, o.2.2.2.2.1), (81, o.2.2.2.2.2.1), (88, o.2.2.2.2.2.2.1), (89, o.2.2.2.2.2.2.2.1)] f)) (zE_G (zL_w [(83, o.2.2.2.2.2.2.2.2.1), (84, o.2.2.2.2.2.2.2.2.2.1), (85, o.2.2.2.2.2.2.2.2.2.2.1), (86, o.2.2.2.2.2.2.2.2.2.2.2)] g)) := (zv_emq (va2 := [.inr 1, .inl x1]) (F := zE_Fr r0 r1 1000 r3 r4 1000 1000 1000 1000 1000 1000 f) (F' := (zE_Fr r0 r1 1000 r3 r4 1000 1000 1000 1000 1000 1000 (zL_u [(74, o.2.1), (75, o.2.2.1), (76, o.2.2.2.1), (87, o.2.2.2.2.1), (81, o.2.2.2.2.2.1), (88, o.2.2.2.2.2.2.1), (89, o.2.2.2.2.2.2.2.1)] f))) (G := zE_G g) (G' := (zE_G (zL_w [(83, o.2.2.2.2.2.2.2.2.1), (84, o.2.2.2.2.2.2.2.2.2.1), (85, o.2.2.2.2.2.2.2.2.2.2.1), (86, o.2.2.2.2.2.2.2.2.2.2.2)] g))) (ρ := [1, 87, 102, 103, 104, 105]) (φ := [74, 75, 76, 87, 81, 88, 89]) (ψ := [68, 83, 84, 85, 86]) [none, none, none, none, none, none, none, none, none, none, none, none, none, none, none, none, none, none, none, none, none, none, none, none, none, none, none, none, none, none, none, none, none, none, none, none, none, none, none, none, none, none, none, none, none, none, none, none, none, none, none, none, none, none, none, none, none, none, none, none, none, none, none, none, none, none, none, none, none, none, none, none, none, none, some 0, some 1, some 2, none, none, none, none, some 4, none, none, none, none, none, some 3, some 5, some 6, none, none, none, none, none, none, none, none, none] [none, none, none, none, none, none, none, none, none, none, none, none, none, none, none, none, none, none, none, none, none, none, none, none, none, none, none, none, none, none, none, none, none, none, none, none, none, none, none, none, none, none, none, none, none, none, none, none, none, none, none, none, none, none, none, none, none, none, none, none, none, none, none, none, none, none, none, none, some 0, none, none, none, none, none, none, none, none, none, none, none, none, none, none, some 1, some 2, some 3, some 4, none, none, none, none, none, none, none, none, none, none, none, none, none, none, none, none, none, none, none, none, none, none, none] zyw_M_tale zywE zyeE (by decide +kernel) (zt_M_tale h) ⟨⟨_, rfl, fun _ => rfl⟩, ⟨_, rfl, fun _ => rfl⟩, ⟨_, rfl, fun _ => rfl⟩, ⟨_, rfl, fun _ => rfl⟩, ⟨_, rfl, fun _ => rfl⟩, ⟨_, rfl, fun _ => rfl⟩, ⟨_, rfl, fun _ => rfl⟩, trivial⟩ ⟨rfl, rfl, rfl, rfl, rfl, trivial⟩ rfl rfl rfl rfl rfl rfl rfl)
end
section
/-! law, tale: their cases; the switch; one call of the law. -/
theorem zc_law {good : Nat → List zNV → List zNV → List zNV → List (Int → Int) → Prop} {Lx : Nat} {xs : Nat → Int32} {i : Int} {f : Nat → Int} {g : Nat → Int → Int} (hL : Lx ≤ 3072) (hB : zw_B good) (hR : zw_R Lx xs good) (i0 : 0 ≤ i) (i6 : i + 6 ≤ Lx) (hI : zI f g) (k : ∀ f2 g2, zI f2 g2 → good 18 (zw_lc (i + 6)) [] (zE_F f2) (zE_G g2)) (k1 : ∀ f2 g2, zI (fun j => f2 (zv_rc zE_p1 j)) (fun j => g2 (zv_rc zE_q1 j)) → good 18 (zw_lc (i + 6)) [] (zE_Fr 21 14 1000 22 24 1000 1000 1000 1000 1000 1000 f2) (zE_G g2)) : good 567 (zw_lc i) [] (zE_F f) (zE_G g) := by
  obtain ⟨L, R⟩ := hI.law
  obtain ⟨X, Y, e1, e2, hr, hs, hs2, hc⟩ := yl_law (T := g 7) (M := g 68) hI.tape.2.2.2 (x := zw_a xs i 1) (s := f 6) (f2 := f 9) (f3 := f 10) (f4 := f 11) (f6 := f 13) (f7 := f 14) (f8 := f 15) (f9 := f 16) (f10 := f 17) (f11 := f 18) (g1 := g 8) (g2 := g 9) (g3 := g 10) (g4 := g 11) (g5 := g 12) (g6 := g 13) (m1 := f 75) (m2 := f 76) (m3 := f 77) (m4 := f 78) (m5 := f 79) (m6 := f 80) (m7 := f 81) (m8 := f 82) (m9 := f 83) (a1 := g 69) (a2 := g 70) (a3 := g 71) (a4 := g 72) (a5 := g 73) (a6 := g 74) (a7 := g 75) (a8 := g 76) (a9 := g 77) (a10 := g 78) (a11 := g 79)
  rw [← hI.tape.1] at e2
  rcases hc with ⟨c1, c2, c3, c4⟩ | ⟨c1, c2, L2, R2⟩
  · have hx := zE_X_law e1
    rw [c1, c2] at hx
    have R3 : yl_R L (g 20) (g 22) (f 32) (f 30) (f 35) (f 34) (f 36) (g 17) (g 44) (g 18) (g 19) Y.2.2.2.2.2.2.2.2.2.2.1 Y.2.2.2.2.2.2.2.2.2.2.2.2.2.2.2.2.2.1 Y.2.2.2.2.2.2.2.2.2.2.2.2.2.2.2.2.2.2.1 Y.2.2.2.2.2.2.2.2.2.2.2.2.2.2.2.2.2.2.2.1 Y.2.2.2.2.2.2.2.2.2.2.2.2.2.2.2.2.2.2.2.2.1 Y.2.2.2.2.2.2.2.2.2.2.2.2.2.2.2.2.2.2.2.2.2 := by rw [c3, c4]; exact R
    refine zv_ald (ins := .aload_n 1) (len := 1) hB (by decide +kernel) rfl rfl rfl ?_
    refine zw_arg (j := 1) hB hR i0 i6 hL (by decide +kernel) (by decide) (by decide) rfl ?_
    refine zv_cv (i := 55) (c := 0) (mm2 := zxm34) (rm2 := (81, 4860)) (va := [.inl (zw_a xs i 1)]) (S := []) hB (hx) (by decide +kernel) rfl rfl (by decide) (by decide) rfl ?_
    refine zv_pop hB (by decide +kernel) rfl ?_
    refine zv_ald (ins := .aload_n 2) (len := 1) hB (by decide +kernel) rfl rfl rfl ?_
    refine zw_arg (j := 1) hB hR i0 i6 hL (by decide +kernel) (by decide) (by decide) rfl ?_
    refine zv_cv (i := 59) (c := 1) (mm2 := zxm215) (rm2 := (8, 480)) (va := [.inl (zw_a xs i 1)]) (S := []) hB (zE_M_law e2) (by decide +kernel) rfl rfl (by decide) (by decide) rfl ?_
    refine zv_pop hB (by decide +kernel) rfl ?_
    refine zv_goto hB (off := 1006) (t := 1593) (by decide +kernel) rfl ?_
    exact zw_tail hB i0 i6 hL (k _ _ ⟨⟨L, R3⟩, hI.sky, hI.sea, zI_size hI (c := X.2.1) rfl hs.symm hs2, hI.tale, hI.kept, hI.so, hI.le, hI.ln⟩)
  · have hx := zE_X_law e1
    rw [c1, c2] at hx
    refine zv_ald (ins := .aload_n 1) (len := 1) hB (by decide +kernel) rfl rfl rfl ?_
    refine zw_arg (j := 1) hB hR i0 i6 hL (by decide +kernel) (by decide) (by decide) rfl ?_
    refine zv_cv (i := 55) (c := 0) (mm2 := zxm34) (rm2 := (81, 4860)) (va := [.inl (zw_a xs i 1)]) (S := []) hB (hx) (by decide +kernel) rfl rfl (by decide) (by decide) rfl ?_
    refine zv_pop hB (by decide +kernel) rfl ?_
    refine zv_ald (ins := .aload_n 2) (len := 1) hB (by decide +kernel) rfl rfl rfl ?_
    refine zw_arg (j := 1) hB hR i0 i6 hL (by decide +kernel) (by decide) (by decide) rfl ?_
    refine zv_cv (i := 59) (c := 1) (mm2 := zxm215) (rm2 := (8, 480)) (va := [.inl (zw_a xs i 1)]) (S := []) hB (zE_M_law e2) (by decide +kernel) rfl rfl (by decide) (by decide) rfl ?_
    refine zv_pop hB (by decide +kernel) rfl ?_
    refine zv_goto hB (off := 1006) (t := 1593) (by decide +kernel) rfl ?_
    exact zw_tail hB i0 i6 hL (k1 _ _ ⟨⟨L2, R2⟩, hI.sky, hI.sea, zI_size hI (c := X.2.1) rfl hs.symm hs2, hI.tale, hI.kept, hI.so, hI.le, hI.ln⟩)
theorem zc_tale {good : Nat → List zNV → List zNV → List zNV → List (Int → Int) → Prop} {Lx : Nat} {xs : Nat → Int32} {i : Int} {f : Nat → Int} {g : Nat → Int → Int} (hL : Lx ≤ 3072) (hB : zw_B good) (hR : zw_R Lx xs good) (i0 : 0 ≤ i) (i6 : i + 6 ≤ Lx) (hI : zI f g) (k : ∀ f2 g2, zI f2 g2 → good 18 (zw_lc (i + 6)) [] (zE_F f2) (zE_G g2)) (k1 : ∀ f2 g2, zI (fun j => f2 (zv_rc zE_p2 j)) (fun j => g2 (zv_rc zE_q2 j)) → good 18 (zw_lc (i + 6)) [] (zE_Fr 14 21 1000 24 22 1000 1000 1000 1000 1000 1000 f2) (zE_G g2)) : good 590 (zw_lc i) [] (zE_F f) (zE_G g) := by
  obtain ⟨L, R⟩ := hI.law
  obtain ⟨r, n', n2', a, b, c, ii, jj, p0', l0', nl', flt', tl', ni', s1', s2', fr', to', e1, e2, p', hc⟩ := yo_tale (x := zw_a xs i 1) (n := f 6) (n2 := f 74) (f2 := f 21) (f3 := f 22) (p0 := f 75) (l0 := f 76) (nl := f 87) (flt := f 81) (tl := f 88) (ni := f 89) (g1 := g 14) (s1 := g 83) (s2 := g 84) (fr := g 85) (to := g 86) hI.tape
  rcases hc with ⟨rfl, rfl, rfl, rfl, rfl, rfl⟩ | ⟨rfl, rfl, rfl, rfl, ht⟩
  · refine zv_ald (ins := .aload_n 1) (len := 1) hB (by decide +kernel) rfl rfl rfl ?_
    refine zw_arg (j := 1) hB hR i0 i6 hL (by decide +kernel) (by decide) (by decide) rfl ?_
    refine zv_cv (i := 60) (c := 0) (mm2 := zxm76) (rm2 := (2, 120)) (va := [.inl (zw_a xs i 1)]) (S := []) hB (zE_X_tale e1) (by decide +kernel) rfl rfl (by decide) (by decide) rfl ?_
    refine zv_pop hB (by decide +kernel) rfl ?_
    refine zv_ald (ins := .aload_n 2) (len := 1) hB (by decide +kernel) rfl rfl rfl ?_
    refine zw_arg (j := 1) hB hR i0 i6 hL (by decide +kernel) (by decide) (by decide) rfl ?_
    refine zv_cv (i := 63) (c := 1) (mm2 := zxm263) (rm2 := (3, 180)) (va := [.inl (zw_a xs i 1)]) (S := []) hB (zE_M_tale e2) (by decide +kernel) rfl rfl (by decide) (by decide) rfl ?_
    refine zv_pop hB (by decide +kernel) rfl ?_
    refine zv_goto hB (off := 983) (t := 1593) (by decide +kernel) rfl ?_
    exact zw_tail hB i0 i6 hL (k _ _ ⟨⟨L, R⟩, hI.sky, hI.sea, p', hI.tale, hI.kept, hI.so, hI.le, hI.ln⟩)
  · refine zv_ald (ins := .aload_n 1) (len := 1) hB (by decide +kernel) rfl rfl rfl ?_
    refine zw_arg (j := 1) hB hR i0 i6 hL (by decide +kernel) (by decide) (by decide) rfl ?_
    refine zv_cv (i := 60) (c := 0) (mm2 := zxm76) (rm2 := (2, 120)) (va := [.inl (zw_a xs i 1)]) (S := []) hB (zE_X_tale e1) (by decide +kernel) rfl rfl (by decide) (by decide) rfl ?_
    refine zv_pop hB (by decide +kernel) rfl ?_
    refine zv_ald (ins := .aload_n 2) (len := 1) hB (by decide +kernel) rfl rfl rfl ?_
    refine zw_arg (j := 1) hB hR i0 i6 hL (by decide +kernel) (by decide) (by decide) rfl ?_
    refine zv_cv (i := 63) (c := 1) (mm2 := zxm263) (rm2 := (3, 180)) (va := [.inl (zw_a xs i 1)]) (S := []) hB (zE_M_tale e2) (by decide +kernel) rfl rfl (by decide) (by decide) rfl ?_
    refine zv_pop hB (by decide +kernel) rfl ?_
    refine zv_goto hB (off := 983) (t := 1593) (by decide +kernel) rfl ?_
    exact zw_tail hB i0 i6 hL (k1 _ _ ⟨⟨L, R⟩, hI.sky, hI.sea, p', ⟨rfl, rfl, ht⟩, hI.kept, hI.so, hI.le, hI.ln⟩)
end
section
/-! The switch: one call of the law. -/
theorem zw_all {Lx : Nat} {xs : Nat → Int32} (hL : Lx ≤ 3072) : zw_body Lx xs zI := by
  intro good hB hR i f g hI i0 i6 k k1 k2
  refine zv_ald (ins := .aload_n 0) (len := 1) hB (by decide +kernel) rfl rfl rfl ?_
  refine zv_ild (ins := .iload_n 3) (len := 1) hB (by decide +kernel) rfl rfl ?_
  refine hR.2.1 _ _ _ _ _ _ (by decide +kernel) i0 (by omega) ?_
  refine zv_con (ins := .bipush 63) (len := 2) hB (by decide +kernel) rfl ?_
  refine zv_and hB (by decide +kernel) (by decide) fun v v0 v1 => ?_
  refine zv_tsw (dflt := 1560) (lo := 0) (hi := 38) (offs := #[171, 224, 267, 290, 313, 336, 369, 428, 471, 534, 557, 580, 613, 646, 699, 742, 785, 828, 851, 884, 907, 940, 973, 1006, 1075, 1098, 1111, 1154, 1217, 1280, 1323, 1366, 1399, 1432, 1465, 1488, 1501, 1514, 1537]) (len := 171) hB (by decide +kernel) rfl ?_
  refine ⟨fun _ => ⟨204, rfl, zc_star hL hB hR i0 i6 hI k⟩, fun _ => ?_⟩
  refine ⟨fun _ => ⟨257, rfl, zc_walk hL hB hR i0 i6 hI k⟩, fun _ => ?_⟩
  refine ⟨fun _ => ⟨300, rfl, zc_gone hL hB hR i0 i6 hI k⟩, fun _ => ?_⟩
  refine ⟨fun _ => ⟨323, rfl, zc_hour hL hB hR i0 i6 hI k⟩, fun _ => ?_⟩
  refine ⟨fun _ => ⟨346, rfl, zc_clouds hL hB hR i0 i6 hI k⟩, fun _ => ?_⟩
  refine ⟨fun _ => ⟨369, rfl, zc_sight hL hB hR i0 i6 hI k⟩, fun _ => ?_⟩
  refine ⟨fun _ => ⟨402, rfl, zc_land hL hB hR i0 i6 hI k⟩, fun _ => ?_⟩
  refine ⟨fun _ => ⟨461, rfl, zc_ship hL hB hR i0 i6 hI k⟩, fun _ => ?_⟩
  refine ⟨fun _ => ⟨504, rfl, zc_feed hL hB hR i0 i6 hI k⟩, fun _ => ?_⟩
  refine ⟨fun _ => ⟨567, rfl, zc_law hL hB hR i0 i6 hI k k1⟩, fun _ => ?_⟩
  refine ⟨fun _ => ⟨590, rfl, zc_tale hL hB hR i0 i6 hI k k2⟩, fun _ => ?_⟩
  refine ⟨fun _ => ⟨613, rfl, zc_starIs hL hB hR i0 i6 hI k⟩, fun _ => ?_⟩
  refine ⟨fun _ => ⟨646, rfl, zc_seen hL hB hR i0 i6 hI k⟩, fun _ => ?_⟩
  refine ⟨fun _ => ⟨679, rfl, zc_line hL hB hR i0 i6 hI k⟩, fun _ => ?_⟩
  refine ⟨fun _ => ⟨732, rfl, zc_sky hL hB hR i0 i6 hI k⟩, fun _ => ?_⟩
  refine ⟨fun _ => ⟨775, rfl, zc_figure hL hB hR i0 i6 hI k⟩, fun _ => ?_⟩
  refine ⟨fun _ => ⟨818, rfl, zc_matched hL hB hR i0 i6 hI k⟩, fun _ => ?_⟩
  refine ⟨fun _ => ⟨861, rfl, zc_where hL hB hR i0 i6 hI k⟩, fun _ => ?_⟩
  refine ⟨fun _ => ⟨884, rfl, zc_when hL hB hR i0 i6 hI k⟩, fun _ => ?_⟩
  refine ⟨fun _ => ⟨917, rfl, zc_alike hL hB hR i0 i6 hI k⟩, fun _ => ?_⟩
  refine ⟨fun _ => ⟨940, rfl, zc_known hL hB hR i0 i6 hI k⟩, fun _ => ?_⟩
  refine ⟨fun _ => ⟨973, rfl, zc_named hL hB hR i0 i6 hI k⟩, fun _ => ?_⟩
  refine ⟨fun _ => ⟨1006, rfl, zc_sold hL hB hR i0 i6 hI k⟩, fun _ => ?_⟩
  refine ⟨fun _ => ⟨1039, rfl, zc_steered hL hB hR i0 i6 hI k⟩, fun _ => ?_⟩
  refine ⟨fun _ => ⟨1108, rfl, zc_hours hL hB hR i0 i6 hI k⟩, fun _ => ?_⟩
  refine ⟨fun _ => ⟨1131, rfl, zc_found hL hB hR i0 i6 hI k⟩, fun _ => ?_⟩
  refine ⟨fun _ => ⟨1144, rfl, zc_meeting hL hB hR i0 i6 hI k⟩, fun _ => ?_⟩
  refine ⟨fun _ => ⟨1187, rfl, zc_fastest hL hB hR i0 i6 hI k⟩, fun _ => ?_⟩
  refine ⟨fun _ => ⟨1250, rfl, zc_byTwo hL hB hR i0 i6 hI k⟩, fun _ => ?_⟩
  refine ⟨fun _ => ⟨1313, rfl, zc_both hL hB hR i0 i6 hI k⟩, fun _ => ?_⟩
  refine ⟨fun _ => ⟨1356, rfl, zc_hidden hL hB hR i0 i6 hI k⟩, fun _ => ?_⟩
  refine ⟨fun _ => ⟨1399, rfl, zc_log hL hB hR i0 i6 hI k⟩, fun _ => ?_⟩
  refine ⟨fun _ => ⟨1432, rfl, zc_over hL hB hR i0 i6 hI k⟩, fun _ => ?_⟩
  refine ⟨fun _ => ⟨1465, rfl, zc_home hL hB hR i0 i6 hI k⟩, fun _ => ?_⟩
  refine ⟨fun _ => ⟨1498, rfl, zc_seed hL hB hR i0 i6 hI k⟩, fun _ => ?_⟩
  refine ⟨fun _ => ⟨1521, rfl, zc_keep hL hB hR i0 i6 hI k⟩, fun _ => ?_⟩
  refine ⟨fun _ => ⟨1534, rfl, zc_undo hL hB hR i0 i6 hI k⟩, fun _ => ?_⟩
  refine ⟨fun _ => ⟨1547, rfl, zc_check hL hB hR i0 i6 hI k⟩, fun _ => ?_⟩
  refine ⟨fun _ => ⟨1570, rfl, zc_count hL hB hR i0 i6 hI k⟩, fun _ => ?_⟩
  exact ⟨1593, rfl, zw_tail hB i0 i6 hL (k f g hI)⟩
end
