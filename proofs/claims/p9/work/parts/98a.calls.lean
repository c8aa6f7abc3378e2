/-! The calls of the law, case by case. -/
theorem zc_star {good : Nat → List zNV → List zNV → List zNV → List (Int → Int) → Prop} {Lx : Nat} {xs : Nat → Int32} {i : Int} {f : Nat → Int} {g : Nat → Int → Int} (hL : Lx ≤ 3072) (hB : zw_B good) (hR : zw_R Lx xs good) (i0 : 0 ≤ i) (i6 : i + 6 ≤ Lx) (hI : zI f g) (k : ∀ f2 g2, zI f2 g2 → good 18 (zw_lc (i + 6)) [] (zE_F f2) (zE_G g2)) : good 204 (zw_lc i) [] (zE_F f) (zE_G g) := by
  obtain ⟨L, R⟩ := hI.law
  have tl := zI_tl hI
  obtain ⟨v0, v1, v2, v3, v4, v5, v6, v7, e1, e2, k', fr⟩ := yo_star (i := (zw_a xs i 1)) (c := (zw_a xs i 2)) (r := (zw_a xs i 3)) (b := (zw_a xs i 4)) (t := (f 0)) (co := (g 0)) (ro := (g 1)) (br := (g 2)) (wc := (g 3)) (wr := (g 4)) (m := (g 67)) hI.sky
  refine zv_ald (ins := .aload_n 1) (len := 1) hB (by decide +kernel) rfl rfl rfl ?_
  refine zw_arg (j := 1) hB hR i0 i6 hL (by decide +kernel) (by decide) (by decide) rfl ?_
  refine zw_arg (j := 2) hB hR i0 i6 hL (by decide +kernel) (by decide) (by decide) rfl ?_
  refine zw_arg (j := 3) hB hR i0 i6 hL (by decide +kernel) (by decide) (by decide) rfl ?_
  refine zw_arg (j := 4) hB hR i0 i6 hL (by decide +kernel) (by decide) (by decide) rfl ?_
  refine zv_cv (i := 13) (c := 0) (mm2 := zxm14) (rm2 := (1, 60)) (va := [.inl (zw_a xs i 1), .inl (zw_a xs i 2), .inl (zw_a xs i 3), .inl (zw_a xs i 4)]) (S := []) hB (zE_up (by rfl) (by rfl) (by rfl) (by rfl) (by rfl) (zo_X_star e1)) (by decide +kernel) rfl rfl (by decide) (by decide) rfl ?_
  refine zv_pop hB (by decide +kernel) rfl ?_
  refine zv_ald (ins := .aload_n 2) (len := 1) hB (by decide +kernel) rfl rfl rfl ?_
  refine zw_arg (j := 1) hB hR i0 i6 hL (by decide +kernel) (by decide) (by decide) rfl ?_
  refine zw_arg (j := 2) hB hR i0 i6 hL (by decide +kernel) (by decide) (by decide) rfl ?_
  refine zw_arg (j := 3) hB hR i0 i6 hL (by decide +kernel) (by decide) (by decide) rfl ?_
  refine zw_arg (j := 4) hB hR i0 i6 hL (by decide +kernel) (by decide) (by decide) rfl ?_
  refine zv_cv (i := 17) (c := 1) (mm2 := zxm199) (rm2 := (1, 60)) (va := [.inl (zw_a xs i 1), .inl (zw_a xs i 2), .inl (zw_a xs i 3), .inl (zw_a xs i 4)]) (S := []) hB (zE_up (by rfl) (by rfl) (by rfl) (by rfl) (by rfl) (zo_M_star e2)) (by decide +kernel) rfl rfl (by decide) (by decide) rfl ?_
  refine zv_pop hB (by decide +kernel) rfl ?_
  refine zv_goto hB (off := 1339) (t := 1593) (by decide +kernel) rfl ?_
  exact zw_tail hB i0 i6 hL (k _ _ ⟨hI.law, k', yk_sea_fr hI.sea fun j hj => fr j (by omega) (by omega), hI.tape, hI.tale, hI.kept, hI.so, hI.le, hI.ln⟩)
theorem zc_walk {good : Nat → List zNV → List zNV → List zNV → List (Int → Int) → Prop} {Lx : Nat} {xs : Nat → Int32} {i : Int} {f : Nat → Int} {g : Nat → Int → Int} (hL : Lx ≤ 3072) (hB : zw_B good) (hR : zw_R Lx xs good) (i0 : 0 ≤ i) (i6 : i + 6 ≤ Lx) (hI : zI f g) (k : ∀ f2 g2, zI f2 g2 → good 18 (zw_lc (i + 6)) [] (zE_F f2) (zE_G g2)) : good 257 (zw_lc i) [] (zE_F f) (zE_G g) := by
  obtain ⟨L, R⟩ := hI.law
  have tl := zI_tl hI
  obtain ⟨v0, v1, v2, v3, e1, e2, k', fr⟩ := yo_walk (i := (zw_a xs i 1)) (c := (zw_a xs i 2)) (r := (zw_a xs i 3)) (t := (f 0)) (wc := (g 3)) (wr := (g 4)) (m := (g 67)) hI.sky
  refine zv_ald (ins := .aload_n 1) (len := 1) hB (by decide +kernel) rfl rfl rfl ?_
  refine zw_arg (j := 1) hB hR i0 i6 hL (by decide +kernel) (by decide) (by decide) rfl ?_
  refine zw_arg (j := 2) hB hR i0 i6 hL (by decide +kernel) (by decide) (by decide) rfl ?_
  refine zw_arg (j := 3) hB hR i0 i6 hL (by decide +kernel) (by decide) (by decide) rfl ?_
  refine zv_cv (i := 18) (c := 0) (mm2 := zxm17) (rm2 := (1, 60)) (va := [.inl (zw_a xs i 1), .inl (zw_a xs i 2), .inl (zw_a xs i 3)]) (S := []) hB (zE_up (by rfl) (by rfl) (by rfl) (by rfl) (by rfl) (zo_X_walk e1)) (by decide +kernel) rfl rfl (by decide) (by decide) rfl ?_
  refine zv_pop hB (by decide +kernel) rfl ?_
  refine zv_ald (ins := .aload_n 2) (len := 1) hB (by decide +kernel) rfl rfl rfl ?_
  refine zw_arg (j := 1) hB hR i0 i6 hL (by decide +kernel) (by decide) (by decide) rfl ?_
  refine zw_arg (j := 2) hB hR i0 i6 hL (by decide +kernel) (by decide) (by decide) rfl ?_
  refine zw_arg (j := 3) hB hR i0 i6 hL (by decide +kernel) (by decide) (by decide) rfl ?_
  refine zv_cv (i := 22) (c := 1) (mm2 := zxm202) (rm2 := (2, 120)) (va := [.inl (zw_a xs i 1), .inl (zw_a xs i 2), .inl (zw_a xs i 3)]) (S := []) hB (zE_up (by rfl) (by rfl) (by rfl) (by rfl) (by rfl) (zo_M_walk e2)) (by decide +kernel) rfl rfl (by decide) (by decide) rfl ?_
  refine zv_pop hB (by decide +kernel) rfl ?_
  refine zv_goto hB (off := 1296) (t := 1593) (by decide +kernel) rfl ?_
  exact zw_tail hB i0 i6 hL (k _ _ ⟨hI.law, k', yk_sea_fr hI.sea fun j hj => fr j (by omega), hI.tape, hI.tale, hI.kept, hI.so, hI.le, hI.ln⟩)
theorem zc_gone {good : Nat → List zNV → List zNV → List zNV → List (Int → Int) → Prop} {Lx : Nat} {xs : Nat → Int32} {i : Int} {f : Nat → Int} {g : Nat → Int → Int} (hL : Lx ≤ 3072) (hB : zw_B good) (hR : zw_R Lx xs good) (i0 : 0 ≤ i) (i6 : i + 6 ≤ Lx) (hI : zI f g) (k : ∀ f2 g2, zI f2 g2 → good 18 (zw_lc (i + 6)) [] (zE_F f2) (zE_G g2)) : good 300 (zw_lc i) [] (zE_F f) (zE_G g) := by
  obtain ⟨L, R⟩ := hI.law
  have tl := zI_tl hI
  obtain ⟨v0, v1, v2, e1, e2, k', fr⟩ := yo_gone (i := (zw_a xs i 1)) (t := (f 0)) (m := (g 67)) hI.sky
  refine zv_ald (ins := .aload_n 1) (len := 1) hB (by decide +kernel) rfl rfl rfl ?_
  refine zw_arg (j := 1) hB hR i0 i6 hL (by decide +kernel) (by decide) (by decide) rfl ?_
  refine zv_cv (i := 23) (c := 0) (mm2 := zxm19) (rm2 := (1, 60)) (va := [.inl (zw_a xs i 1)]) (S := []) hB (zE_up (by rfl) (by rfl) (by rfl) (by rfl) (by rfl) (zo_X_gone e1)) (by decide +kernel) rfl rfl (by decide) (by decide) rfl ?_
  refine zv_pop hB (by decide +kernel) rfl ?_
  refine zv_ald (ins := .aload_n 2) (len := 1) hB (by decide +kernel) rfl rfl rfl ?_
  refine zw_arg (j := 1) hB hR i0 i6 hL (by decide +kernel) (by decide) (by decide) rfl ?_
  refine zv_cv (i := 27) (c := 1) (mm2 := zxm205) (rm2 := (2, 120)) (va := [.inl (zw_a xs i 1)]) (S := []) hB (zE_up (by rfl) (by rfl) (by rfl) (by rfl) (by rfl) (zo_M_gone e2)) (by decide +kernel) rfl rfl (by decide) (by decide) rfl ?_
  refine zv_pop hB (by decide +kernel) rfl ?_
  refine zv_goto hB (off := 1273) (t := 1593) (by decide +kernel) rfl ?_
  exact zw_tail hB i0 i6 hL (k _ _ ⟨hI.law, k', yk_sea_fr hI.sea fun j hj => fr j (by omega), hI.tape, hI.tale, hI.kept, hI.so, hI.le, hI.ln⟩)
theorem zc_hour {good : Nat → List zNV → List zNV → List zNV → List (Int → Int) → Prop} {Lx : Nat} {xs : Nat → Int32} {i : Int} {f : Nat → Int} {g : Nat → Int → Int} (hL : Lx ≤ 3072) (hB : zw_B good) (hR : zw_R Lx xs good) (i0 : 0 ≤ i) (i6 : i + 6 ≤ Lx) (hI : zI f g) (k : ∀ f2 g2, zI f2 g2 → good 18 (zw_lc (i + 6)) [] (zE_F f2) (zE_G g2)) : good 323 (zw_lc i) [] (zE_F f) (zE_G g) := by
  obtain ⟨L, R⟩ := hI.law
  have tl := zI_tl hI
  obtain ⟨v0, v1, v2, e1, e2, k', fr⟩ := yo_hour (n := (zw_a xs i 1)) (h := (f 1)) (m := (g 67)) hI.sky
  refine zv_ald (ins := .aload_n 1) (len := 1) hB (by decide +kernel) rfl rfl rfl ?_
  refine zw_arg (j := 1) hB hR i0 i6 hL (by decide +kernel) (by decide) (by decide) rfl ?_
  refine zv_cv (i := 28) (c := 0) (mm2 := zxm20) (rm2 := (1, 60)) (va := [.inl (zw_a xs i 1)]) (S := []) hB (zE_up (by rfl) (by rfl) (by rfl) (by rfl) (by rfl) (zo_X_hour e1)) (by decide +kernel) rfl rfl (by decide) (by decide) rfl ?_
  refine zv_pop hB (by decide +kernel) rfl ?_
  refine zv_ald (ins := .aload_n 2) (len := 1) hB (by decide +kernel) rfl rfl rfl ?_
  refine zw_arg (j := 1) hB hR i0 i6 hL (by decide +kernel) (by decide) (by decide) rfl ?_
  refine zv_cv (i := 31) (c := 1) (mm2 := zxm206) (rm2 := (1, 60)) (va := [.inl (zw_a xs i 1)]) (S := []) hB (zE_up (by rfl) (by rfl) (by rfl) (by rfl) (by rfl) (zo_M_hour e2)) (by decide +kernel) rfl rfl (by decide) (by decide) rfl ?_
  refine zv_pop hB (by decide +kernel) rfl ?_
  refine zv_goto hB (off := 1250) (t := 1593) (by decide +kernel) rfl ?_
  exact zw_tail hB i0 i6 hL (k _ _ ⟨hI.law, k', yk_sea_fr hI.sea fun j hj => fr j (by omega), hI.tape, hI.tale, hI.kept, hI.so, hI.le, hI.ln⟩)
theorem zc_clouds {good : Nat → List zNV → List zNV → List zNV → List (Int → Int) → Prop} {Lx : Nat} {xs : Nat → Int32} {i : Int} {f : Nat → Int} {g : Nat → Int → Int} (hL : Lx ≤ 3072) (hB : zw_B good) (hR : zw_R Lx xs good) (i0 : 0 ≤ i) (i6 : i + 6 ≤ Lx) (hI : zI f g) (k : ∀ f2 g2, zI f2 g2 → good 18 (zw_lc (i + 6)) [] (zE_F f2) (zE_G g2)) : good 346 (zw_lc i) [] (zE_F f) (zE_G g) := by
  obtain ⟨L, R⟩ := hI.law
  have tl := zI_tl hI
  obtain ⟨v0, v1, v2, e1, e2, k', fr⟩ := yo_clouds (n := (zw_a xs i 1)) (cl := (f 2)) (m := (g 67)) hI.sky
  refine zv_ald (ins := .aload_n 1) (len := 1) hB (by decide +kernel) rfl rfl rfl ?_
  refine zw_arg (j := 1) hB hR i0 i6 hL (by decide +kernel) (by decide) (by decide) rfl ?_
  refine zv_cv (i := 32) (c := 0) (mm2 := zxm21) (rm2 := (1, 60)) (va := [.inl (zw_a xs i 1)]) (S := []) hB (zE_up (by rfl) (by rfl) (by rfl) (by rfl) (by rfl) (zo_X_clouds e1)) (by decide +kernel) rfl rfl (by decide) (by decide) rfl ?_
  refine zv_pop hB (by decide +kernel) rfl ?_
  refine zv_ald (ins := .aload_n 2) (len := 1) hB (by decide +kernel) rfl rfl rfl ?_
  refine zw_arg (j := 1) hB hR i0 i6 hL (by decide +kernel) (by decide) (by decide) rfl ?_
  refine zv_cv (i := 35) (c := 1) (mm2 := zxm207) (rm2 := (1, 60)) (va := [.inl (zw_a xs i 1)]) (S := []) hB (zE_up (by rfl) (by rfl) (by rfl) (by rfl) (by rfl) (zo_M_clouds e2)) (by decide +kernel) rfl rfl (by decide) (by decide) rfl ?_
  refine zv_pop hB (by decide +kernel) rfl ?_
  refine zv_goto hB (off := 1227) (t := 1593) (by decide +kernel) rfl ?_
  exact zw_tail hB i0 i6 hL (k _ _ ⟨hI.law, k', yk_sea_fr hI.sea fun j hj => fr j (by omega), hI.tape, hI.tale, hI.kept, hI.so, hI.le, hI.ln⟩)
theorem zc_sight {good : Nat → List zNV → List zNV → List zNV → List (Int → Int) → Prop} {Lx : Nat} {xs : Nat → Int32} {i : Int} {f : Nat → Int} {g : Nat → Int → Int} (hL : Lx ≤ 3072) (hB : zw_B good) (hR : zw_R Lx xs good) (i0 : 0 ≤ i) (i6 : i + 6 ≤ Lx) (hI : zI f g) (k : ∀ f2 g2, zI f2 g2 → good 18 (zw_lc (i + 6)) [] (zE_F f2) (zE_G g2)) : good 369 (zw_lc i) [] (zE_F f) (zE_G g) := by
  obtain ⟨L, R⟩ := hI.law
  have tl := zI_tl hI
  obtain ⟨v0, v1, v2, v3, e1, e2, k', fr⟩ := yo_sight (n := (zw_a xs i 1)) (n2 := (zw_a xs i 2)) (sc := (f 3)) (sr := (f 4)) (m := (g 67)) hI.sky
  refine zv_ald (ins := .aload_n 1) (len := 1) hB (by decide +kernel) rfl rfl rfl ?_
  refine zw_arg (j := 1) hB hR i0 i6 hL (by decide +kernel) (by decide) (by decide) rfl ?_
  refine zw_arg (j := 2) hB hR i0 i6 hL (by decide +kernel) (by decide) (by decide) rfl ?_
  refine zv_cv (i := 36) (c := 0) (mm2 := zxm22) (rm2 := (1, 60)) (va := [.inl (zw_a xs i 1), .inl (zw_a xs i 2)]) (S := []) hB (zE_up (by rfl) (by rfl) (by rfl) (by rfl) (by rfl) (zo_X_sight e1)) (by decide +kernel) rfl rfl (by decide) (by decide) rfl ?_
  refine zv_pop hB (by decide +kernel) rfl ?_
  refine zv_ald (ins := .aload_n 2) (len := 1) hB (by decide +kernel) rfl rfl rfl ?_
  refine zw_arg (j := 1) hB hR i0 i6 hL (by decide +kernel) (by decide) (by decide) rfl ?_
  refine zw_arg (j := 2) hB hR i0 i6 hL (by decide +kernel) (by decide) (by decide) rfl ?_
  refine zv_cv (i := 40) (c := 1) (mm2 := zxm208) (rm2 := (1, 60)) (va := [.inl (zw_a xs i 1), .inl (zw_a xs i 2)]) (S := []) hB (zE_up (by rfl) (by rfl) (by rfl) (by rfl) (by rfl) (zo_M_sight e2)) (by decide +kernel) rfl rfl (by decide) (by decide) rfl ?_
  refine zv_pop hB (by decide +kernel) rfl ?_
  refine zv_goto hB (off := 1194) (t := 1593) (by decide +kernel) rfl ?_
  exact zw_tail hB i0 i6 hL (k _ _ ⟨hI.law, k', yk_sea_fr hI.sea fun j hj => fr j (by omega) (by omega), hI.tape, hI.tale, hI.kept, hI.so, hI.le, hI.ln⟩)
theorem zc_land {good : Nat → List zNV → List zNV → List zNV → List (Int → Int) → Prop} {Lx : Nat} {xs : Nat → Int32} {i : Int} {f : Nat → Int} {g : Nat → Int → Int} (hL : Lx ≤ 3072) (hB : zw_B good) (hR : zw_R Lx xs good) (i0 : 0 ≤ i) (i6 : i + 6 ≤ Lx) (hI : zI f g) (k : ∀ f2 g2, zI f2 g2 → good 18 (zw_lc (i + 6)) [] (zE_F f2) (zE_G g2)) : good 402 (zw_lc i) [] (zE_F f) (zE_G g) := by
  obtain ⟨L, R⟩ := hI.law
  have tl := zI_tl hI
  obtain ⟨v0, v1, v2, e1, e2, z', fr⟩ := yo_land (x := (zw_a xs i 1)) (y := (zw_a xs i 2)) (b := (if zw_a xs i 3 = 0 then 0 else 1)) (ts := (f 5)) (gp := (g 5)) (gl := (g 6)) (m := (g 67)) hI.sea
  refine zv_ald (ins := .aload_n 1) (len := 1) hB (by decide +kernel) rfl rfl rfl ?_
  refine zw_arg (j := 1) hB hR i0 i6 hL (by decide +kernel) (by decide) (by decide) rfl ?_
  refine zw_arg (j := 2) hB hR i0 i6 hL (by decide +kernel) (by decide) (by decide) rfl ?_
  refine zw_arg (j := 3) hB hR i0 i6 hL (by decide +kernel) (by decide) (by decide) rfl ?_
  refine zw_bool (pc := 418) hB (by decide +kernel) (by decide +kernel) (by decide +kernel) (by decide +kernel) rfl rfl ?_
  refine zv_cv (i := 41) (c := 0) (mm2 := zxm23) (rm2 := (2, 120)) (va := [.inl (zw_a xs i 1), .inl (zw_a xs i 2), .inl (if zw_a xs i 3 = 0 then 0 else 1)]) (S := []) hB (zE_up (by rfl) (by rfl) (by rfl) (by rfl) (by rfl) (zo_X_land e1)) (by decide +kernel) rfl rfl (by decide) (by decide) rfl ?_
  refine zv_pop hB (by decide +kernel) rfl ?_
  refine zv_ald (ins := .aload_n 2) (len := 1) hB (by decide +kernel) rfl rfl rfl ?_
  refine zw_arg (j := 1) hB hR i0 i6 hL (by decide +kernel) (by decide) (by decide) rfl ?_
  refine zw_arg (j := 2) hB hR i0 i6 hL (by decide +kernel) (by decide) (by decide) rfl ?_
  refine zw_arg (j := 3) hB hR i0 i6 hL (by decide +kernel) (by decide) (by decide) rfl ?_
  refine zw_bool (pc := 446) hB (by decide +kernel) (by decide +kernel) (by decide +kernel) (by decide +kernel) rfl rfl ?_
  refine zv_cv (i := 45) (c := 1) (mm2 := zxm209) (rm2 := (2, 120)) (va := [.inl (zw_a xs i 1), .inl (zw_a xs i 2), .inl (if zw_a xs i 3 = 0 then 0 else 1)]) (S := []) hB (zE_up (by rfl) (by rfl) (by rfl) (by rfl) (by rfl) (zo_M_land e2)) (by decide +kernel) rfl rfl (by decide) (by decide) rfl ?_
  refine zv_pop hB (by decide +kernel) rfl ?_
  refine zv_goto hB (off := 1135) (t := 1593) (by decide +kernel) rfl ?_
  exact zw_tail hB i0 i6 hL (k _ _ ⟨hI.law, yk_sky_fr hI.sky fun j hj => fr j (by omega), z', hI.tape, hI.tale, hI.kept, hI.so, hI.le, hI.ln⟩)
theorem zc_ship {good : Nat → List zNV → List zNV → List zNV → List (Int → Int) → Prop} {Lx : Nat} {xs : Nat → Int32} {i : Int} {f : Nat → Int} {g : Nat → Int → Int} (hL : Lx ≤ 3072) (hB : zw_B good) (hR : zw_R Lx xs good) (i0 : 0 ≤ i) (i6 : i + 6 ≤ Lx) (hI : zI f g) (k : ∀ f2 g2, zI f2 g2 → good 18 (zw_lc (i + 6)) [] (zE_F f2) (zE_G g2)) : good 461 (zw_lc i) [] (zE_F f) (zE_G g) := by
  obtain ⟨L, R⟩ := hI.law
  have tl := zI_tl hI
  obtain ⟨v0, v1, v2, v3, e1, e2, z', fr⟩ := yo_ship (s := (zw_a xs i 1)) (x := (zw_a xs i 2)) (y := (zw_a xs i 3)) (ts := (f 5)) (gl := (g 6)) (gp := (g 5)) (m := (g 67)) hI.sea
  refine zv_ald (ins := .aload_n 1) (len := 1) hB (by decide +kernel) rfl rfl rfl ?_
  refine zw_arg (j := 1) hB hR i0 i6 hL (by decide +kernel) (by decide) (by decide) rfl ?_
  refine zw_arg (j := 2) hB hR i0 i6 hL (by decide +kernel) (by decide) (by decide) rfl ?_
  refine zw_arg (j := 3) hB hR i0 i6 hL (by decide +kernel) (by decide) (by decide) rfl ?_
  refine zv_cv (i := 46) (c := 0) (mm2 := zxm28) (rm2 := (2, 120)) (va := [.inl (zw_a xs i 1), .inl (zw_a xs i 2), .inl (zw_a xs i 3)]) (S := []) hB (zE_up (by rfl) (by rfl) (by rfl) (by rfl) (by rfl) (zo_X_ship e1)) (by decide +kernel) rfl rfl (by decide) (by decide) rfl ?_
  refine zv_ald (ins := .aload_n 2) (len := 1) hB (by decide +kernel) rfl rfl rfl ?_
  refine zw_arg (j := 1) hB hR i0 i6 hL (by decide +kernel) (by decide) (by decide) rfl ?_
  refine zw_arg (j := 2) hB hR i0 i6 hL (by decide +kernel) (by decide) (by decide) rfl ?_
  refine zw_arg (j := 3) hB hR i0 i6 hL (by decide +kernel) (by decide) (by decide) rfl ?_
  refine zv_cv (i := 49) (c := 1) (mm2 := zxm211) (rm2 := (1, 60)) (va := [.inl (zw_a xs i 1), .inl (zw_a xs i 2), .inl (zw_a xs i 3)]) (S := [.inl _]) hB (zE_up (by rfl) (by rfl) (by rfl) (by rfl) (by rfl) (zo_M_ship e2)) (by decide +kernel) rfl rfl (by decide) (by decide) rfl ?_
  refine zv_ceq hB (off := 1094) (t := 1593) (by decide +kernel) rfl (fun _ => ?_) fun hne => absurd rfl hne
  exact zw_tail hB i0 i6 hL (k _ _ ⟨hI.law, yk_sky_fr hI.sky fun j hj => fr j (by omega), z', hI.tape, hI.tale, hI.kept, hI.so, hI.le, hI.ln⟩)
theorem zc_feed {good : Nat → List zNV → List zNV → List zNV → List (Int → Int) → Prop} {Lx : Nat} {xs : Nat → Int32} {i : Int} {f : Nat → Int} {g : Nat → Int → Int} (hL : Lx ≤ 3072) (hB : zw_B good) (hR : zw_R Lx xs good) (i0 : 0 ≤ i) (i6 : i + 6 ≤ Lx) (hI : zI f g) (k : ∀ f2 g2, zI f2 g2 → good 18 (zw_lc (i + 6)) [] (zE_F f2) (zE_G g2)) : good 504 (zw_lc i) [] (zE_F f) (zE_G g) := by
  obtain ⟨L, R⟩ := hI.law
  have tl := zI_tl hI
  obtain ⟨v0, v1, v2, v3, v4, e1, e2, p'⟩ := yo_feed (a := (zw_a xs i 1)) (b := (zw_a xs i 2)) (c := (zw_a xs i 3)) (d := (zw_a xs i 4)) (e := (zw_a xs i 5)) (n := (f 6)) (T := (g 7)) (n2 := (f 74)) (M := (g 68)) hI.tape
  refine zv_ald (ins := .aload_n 1) (len := 1) hB (by decide +kernel) rfl rfl rfl ?_
  refine zw_arg (j := 1) hB hR i0 i6 hL (by decide +kernel) (by decide) (by decide) rfl ?_
  refine zw_arg (j := 2) hB hR i0 i6 hL (by decide +kernel) (by decide) (by decide) rfl ?_
  refine zw_arg (j := 3) hB hR i0 i6 hL (by decide +kernel) (by decide) (by decide) rfl ?_
  refine zw_arg (j := 4) hB hR i0 i6 hL (by decide +kernel) (by decide) (by decide) rfl ?_
  refine zw_arg (j := 5) hB hR i0 i6 hL (by decide +kernel) (by decide) (by decide) rfl ?_
  refine zv_cv (i := 50) (c := 0) (mm2 := zxm32) (rm2 := (1, 60)) (va := [.inl (zw_a xs i 1), .inl (zw_a xs i 2), .inl (zw_a xs i 3), .inl (zw_a xs i 4), .inl (zw_a xs i 5)]) (S := []) hB (zE_up (by rfl) (by rfl) (by rfl) (by rfl) (by rfl) (zo_X_feed e1)) (by decide +kernel) rfl rfl (by decide) (by decide) rfl ?_
  refine zv_pop hB (by decide +kernel) rfl ?_
  refine zv_ald (ins := .aload_n 2) (len := 1) hB (by decide +kernel) rfl rfl rfl ?_
  refine zw_arg (j := 1) hB hR i0 i6 hL (by decide +kernel) (by decide) (by decide) rfl ?_
  refine zw_arg (j := 2) hB hR i0 i6 hL (by decide +kernel) (by decide) (by decide) rfl ?_
  refine zw_arg (j := 3) hB hR i0 i6 hL (by decide +kernel) (by decide) (by decide) rfl ?_
  refine zw_arg (j := 4) hB hR i0 i6 hL (by decide +kernel) (by decide) (by decide) rfl ?_
  refine zw_arg (j := 5) hB hR i0 i6 hL (by decide +kernel) (by decide) (by decide) rfl ?_
  refine zv_cv (i := 54) (c := 1) (mm2 := zxm213) (rm2 := (1, 60)) (va := [.inl (zw_a xs i 1), .inl (zw_a xs i 2), .inl (zw_a xs i 3), .inl (zw_a xs i 4), .inl (zw_a xs i 5)]) (S := []) hB (zE_up (by rfl) (by rfl) (by rfl) (by rfl) (by rfl) (zo_M_feed e2)) (by decide +kernel) rfl rfl (by decide) (by decide) rfl ?_
  refine zv_pop hB (by decide +kernel) rfl ?_
  refine zv_goto hB (off := 1029) (t := 1593) (by decide +kernel) rfl ?_
  exact zw_tail hB i0 i6 hL (k _ _ ⟨hI.law, hI.sky, hI.sea, p', hI.tale, hI.kept, hI.so, hI.le, hI.ln⟩)
theorem zc_starIs {good : Nat → List zNV → List zNV → List zNV → List (Int → Int) → Prop} {Lx : Nat} {xs : Nat → Int32} {i : Int} {f : Nat → Int} {g : Nat → Int → Int} (hL : Lx ≤ 3072) (hB : zw_B good) (hR : zw_R Lx xs good) (i0 : 0 ≤ i) (i6 : i + 6 ≤ Lx) (hI : zI f g) (k : ∀ f2 g2, zI f2 g2 → good 18 (zw_lc (i + 6)) [] (zE_F f2) (zE_G g2)) : good 613 (zw_lc i) [] (zE_F f) (zE_G g) := by
  obtain ⟨L, R⟩ := hI.law
  have tl := zI_tl hI
  obtain ⟨v0, e1, e2⟩ := yo_starIs (i := (zw_a xs i 1)) (w := (zw_a xs i 2)) (t := (f 0)) (h := (f 1)) (co := (g 0)) (ro := (g 1)) (br := (g 2)) (wc := (g 3)) (wr := (g 4)) (m := (g 67)) hI.sky
  refine zv_ald (ins := .aload_n 1) (len := 1) hB (by decide +kernel) rfl rfl rfl ?_
  refine zw_arg (j := 1) hB hR i0 i6 hL (by decide +kernel) (by decide) (by decide) rfl ?_
  refine zw_arg (j := 2) hB hR i0 i6 hL (by decide +kernel) (by decide) (by decide) rfl ?_
  refine zv_cv (i := 64) (c := 0) (mm2 := zxm81) (rm2 := (1, 60)) (va := [.inl (zw_a xs i 1), .inl (zw_a xs i 2)]) (S := []) hB (zE_up (by rfl) (by rfl) (by rfl) (by rfl) (by rfl) (zo_X_starIs e1)) (by decide +kernel) rfl rfl (by decide) (by decide) rfl ?_
  refine zv_pop hB (by decide +kernel) rfl ?_
  refine zv_ald (ins := .aload_n 2) (len := 1) hB (by decide +kernel) rfl rfl rfl ?_
  refine zw_arg (j := 1) hB hR i0 i6 hL (by decide +kernel) (by decide) (by decide) rfl ?_
  refine zw_arg (j := 2) hB hR i0 i6 hL (by decide +kernel) (by decide) (by decide) rfl ?_
  refine zv_cv (i := 68) (c := 1) (mm2 := zxm237) (rm2 := (2, 120)) (va := [.inl (zw_a xs i 1), .inl (zw_a xs i 2)]) (S := []) hB (zE_up (by rfl) (by rfl) (by rfl) (by rfl) (by rfl) (zo_M_starIs e2)) (by decide +kernel) rfl rfl (by decide) (by decide) rfl ?_
  refine zv_pop hB (by decide +kernel) rfl ?_
  refine zv_goto hB (off := 950) (t := 1593) (by decide +kernel) rfl ?_
  exact zw_tail hB i0 i6 hL (k _ _ ⟨hI.law, hI.sky, hI.sea, hI.tape, hI.tale, hI.kept, hI.so, hI.le, hI.ln⟩)
