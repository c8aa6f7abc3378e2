/-! 98f.lawcase, 98g.switch -/
section
/-! law, tale: their cases; the switch; one call of the law. -/
theorem zc_law {good : Nat → List zNV → List zNV → List zNV → List (Int → Int) → Prop} {Lx : Nat} {xs : Nat → Int32} {i : Int} {f : Nat → Int} {g : Nat → Int → Int} (hL : Lx ≤ 3072) (hB : zw_B good) (hR : zw_R Lx xs good) (i0 : 0 ≤ i) (i6 : i + 6 ≤ Lx) (hI : zI f g) (k : ∀ f2 g2, zI f2 g2 → good 18 (zw_lc (i + 6)) [] (zE_F f2) (zE_G g2)) (k1 : ∀ f2 g2, zI (fun j => f2 (zv_rc zE_p1 j)) (fun j => g2 (zv_rc zE_q1 j)) → good 18 (zw_lc (i + 6)) [] (zE_Fr 21 14 1000 22 24 1000 1000 1000 1000 1000 1000 f2) (zE_G g2)) : good 567 (zw_lc i) [] (zE_F f) (zE_G g) := by
  obtain ⟨L, R⟩ := hI.law
  obtain ⟨X, Y, e1, e2, hr, hs, hs2, hc⟩ := yl_law (T := g 7) (M := g 68) hI.tape.2.2.2 (x := zw_a xs i 1) (s := f 6) (f2 := f 9) (f3 := f 10) (f4 := f 11) (f6 := f 13) (f7 := f 14) (f8 := f 15) (f9 := f 16) (f10 := f 17) (f11 := f 18) (g1 := g 8) (g2 := g 9) (g3 := g 10) (g4 := g 11) (g5 := g 12) (g6 := g 13) (m1 := f 75) (m2 := f 76) (m3 := f 77) (m4 := f 78) (m5 := f 79) (m6 := f 80) (m7 := f 81) (m8 := f 82) (m9 := f 83) (a1 := g 69) (a2 := g 70) (a3 := g 71) (a4 := g 72) (a5 := g 73) (a6 := g 74) (a7 := g 75) (a8 := g 76) (a9 := g 77) (a10 := g 78) (a11 := g 79)
  rw [← hI.tape.1] at e2
  rcases hc with ⟨c1, c2, c3, c4⟩ | ⟨c1, c2, L2, R2⟩
  · have hx := zE_X_law e1
    rw [c1, c2] at hx
    have R3 : yl_R L (g 20) (g 22) (f 32) (f 30) (f 35) (f 34) (f 36) (g 17) (g 44) (g 18) (g 19) Y.2.2.2.2.2.2.2.2.2.2.1 Y.2.2.2.2.2.2.2.2.2.2.2.2.2.2.2.2.2.1 Y.2.2.2.2.2.2.2.2.2.2.2.2.2.2.2.2.2.2.1 Y.2.2.2.2.2.2.2.2.2.2.2.2.2.2.2.2.2.2.2.1 Y.2.2.2.2.2.2.2.2.2.2.2.2.2.2.2.2.2.2.2.2.1 Y.2.2.2.2.2.2.2.2.2.2.2.2.2.2.2.2.2.2.2.2.2 := by rw [c3, c4]; exact R
    refine zv_ald (ins := .aload_n 1) (len := 1) hB (by decide +kernel) rfl rfl rfl ?_
    refine zw_arg (j := 1) hB hR i0 i6 hL (by decide +kernel) (by decide) (by decide) rfl ?_
    refine zv_cv (i := 55) (c := 0) (mm2 := zxm34) (rm2 := (81, 4860)) (va := [.inl (zw_a xs i 1)]) (S := []) hB (hx) (by decide +kernel) rfl rfl (by decide) (by decide) rfl ?_
    refine zv_pop hB (by decide +kernel) rfl ?_
    refine zv_ald (ins := .aload_n 2) (len := 1) hB (by decide +kernel) rfl rfl rfl ?_
    refine zw_arg (j := 1) hB hR i0 i6 hL (by decide +kernel) (by decide) (by decide) rfl ?_
    refine zv_cv (i := 59) (c := 1) (mm2 := zxm215) (rm2 := (8, 480)) (va := [.inl (zw_a xs i 1)]) (S := []) hB (zE_M_law e2) (by decide +kernel) rfl rfl (by decide) (by decide) rfl ?_
    refine zv_pop hB (by decide +kernel) rfl ?_
    refine zv_goto hB (off := 1006) (t := 1593) (by decide +kernel) rfl ?_
    exact zw_tail hB i0 i6 hL (k _ _ ⟨⟨L, R3⟩, hI.sky, hI.sea, zI_size hI (c := X.2.1) rfl hs.symm hs2, hI.tale, hI.kept, hI.so, hI.le, hI.ln⟩)
  · have hx := zE_X_law e1
    rw [c1, c2] at hx
    refine zv_ald (ins := .aload_n 1) (len := 1) hB (by decide +kernel) rfl rfl rfl ?_
    refine zw_arg (j := 1) hB hR i0 i6 hL (by decide +kernel) (by decide) (by decide) rfl ?_
    refine zv_cv (i := 55) (c := 0) (mm2 := zxm34) (rm2 := (81, 4860)) (va := [.inl (zw_a xs i 1)]) (S := []) hB (hx) (by decide +kernel) rfl rfl (by decide) (by decide) rfl ?_
    refine zv_pop hB (by decide +kernel) rfl ?_
    refine zv_ald (ins := .aload_n 2) (len := 1) hB (by decide +kernel) rfl rfl rfl ?_
    refine zw_arg (j := 1) hB hR i0 i6 hL (by decide +kernel) (by decide) (by decide) rfl ?_
    refine zv_cv (i := 59) (c := 1) (mm2 := zxm215) (rm2 := (8, 480)) (va := [.inl (zw_a xs i 1)]) (S := []) hB (zE_M_law e2) (by decide +kernel) rfl rfl (by decide) (by decide) rfl ?_
    refine zv_pop hB (by decide +kernel) rfl ?_
    refine zv_goto hB (off := 1006) (t := 1593) (by decide +kernel) rfl ?_
    exact zw_tail hB i0 i6 hL (k1 _ _ ⟨⟨L2, R2⟩, hI.sky, hI.sea, zI_size hI (c := X.2.1) rfl hs.symm hs2, hI.tale, hI.kept, hI.so, hI.le, hI.ln⟩)
theorem zc_tale {good : Nat → List zNV → List zNV → List zNV → List (Int → Int) → Prop} {Lx : Nat} {xs : Nat → Int32} {i : Int} {f : Nat → Int} {g : Nat → Int → Int} (hL : Lx ≤ 3072) (hB : zw_B good) (hR : zw_R Lx xs good) (i0 : 0 ≤ i) (i6 : i + 6 ≤ Lx) (hI : zI f g) (k : ∀ f2 g2, zI f2 g2 → good 18 (zw_lc (i + 6)) [] (zE_F f2) (zE_G g2)) (k1 : ∀ f2 g2, zI (fun j => f2 (zv_rc zE_p2 j)) (fun j => g2 (zv_rc zE_q2 j)) → good 18 (zw_lc (i + 6)) [] (zE_Fr 14 21 1000 24 22 1000 1000 1000 1000 1000 1000 f2) (zE_G g2)) : good 590 (zw_lc i) [] (zE_F f) (zE_G g) := by
  obtain ⟨L, R⟩ := hI.law
  obtain ⟨r, n', n2', a, b, c, ii, jj, p0', l0', nl', flt', tl', ni', s1', s2', fr', to', e1, e2, p', hc⟩ := yo_tale (x := zw_a xs i 1) (n := f 6) (n2 := f 74) (f2 := f 21) (f3 := f 22) (p0 := f 75) (l0 := f 76) (nl := f 87) (flt := f 81) (tl := f 88) (ni := f 89) (g1 := g 14) (s1 := g 83) (s2 := g 84) (fr := g 85) (to := g 86) hI.tape
  rcases hc with ⟨rfl, rfl, rfl, rfl, rfl, rfl⟩ | ⟨rfl, rfl, rfl, rfl, ht⟩
  · refine zv_ald (ins := .aload_n 1) (len := 1) hB (by decide +kernel) rfl rfl rfl ?_
    refine zw_arg (j := 1) hB hR i0 i6 hL (by decide +kernel) (by decide) (by decide) rfl ?_
    refine zv_cv (i := 60) (c := 0) (mm2 := zxm76) (rm2 := (2, 120)) (va := [.inl (zw_a xs i 1)]) (S := []) hB (zE_X_tale e1) (by decide +kernel) rfl rfl (by decide) (by decide) rfl ?_
    refine zv_ald (ins := .aload_n 2) (len := 1) hB (by decide +kernel) rfl rfl rfl ?_
    refine zw_arg (j := 1) hB hR i0 i6 hL (by decide +kernel) (by decide) (by decide) rfl ?_
    refine zv_cv (i := 63) (c := 1) (mm2 := zxm263) (rm2 := (3, 180)) (va := [.inl (zw_a xs i 1)]) (S := [.inl _]) hB (zE_M_tale e2) (by decide +kernel) rfl rfl (by decide) (by decide) rfl ?_
    refine zv_ceq hB (off := 985) (t := 1593) (by decide +kernel) rfl (fun _ => ?_) fun hne => absurd rfl hne
    exact zw_tail hB i0 i6 hL (k _ _ ⟨⟨L, R⟩, hI.sky, hI.sea, p', hI.tale, hI.kept, hI.so, hI.le, hI.ln⟩)
  · refine zv_ald (ins := .aload_n 1) (len := 1) hB (by decide +kernel) rfl rfl rfl ?_
    refine zw_arg (j := 1) hB hR i0 i6 hL (by decide +kernel) (by decide) (by decide) rfl ?_
    refine zv_cv (i := 60) (c := 0) (mm2 := zxm76) (rm2 := (2, 120)) (va := [.inl (zw_a xs i 1)]) (S := []) hB (zE_X_tale e1) (by decide +kernel) rfl rfl (by decide) (by decide) rfl ?_
    refine zv_ald (ins := .aload_n 2) (len := 1) hB (by decide +kernel) rfl rfl rfl ?_
    refine zw_arg (j := 1) hB hR i0 i6 hL (by decide +kernel) (by decide) (by decide) rfl ?_
    refine zv_cv (i := 63) (c := 1) (mm2 := zxm263) (rm2 := (3, 180)) (va := [.inl (zw_a xs i 1)]) (S := [.inl _]) hB (zE_M_tale e2) (by decide +kernel) rfl rfl (by decide) (by decide) rfl ?_
    refine zv_ceq hB (off := 985) (t := 1593) (by decide +kernel) rfl (fun _ => ?_) fun hne => absurd rfl hne
    exact zw_tail hB i0 i6 hL (k1 _ _ ⟨⟨L, R⟩, hI.sky, hI.sea, p', ⟨rfl, rfl, ht⟩, hI.kept, hI.so, hI.le, hI.ln⟩)
end
section
/-! The switch: one call of the law. -/
theorem zw_all {Lx : Nat} {xs : Nat → Int32} (hL : Lx ≤ 3072) : zw_body Lx xs zI := by
  intro good hB hR i f g hI i0 i6 k k1 k2
  refine zv_ald (ins := .aload_n 0) (len := 1) hB (by decide +kernel) rfl rfl rfl ?_
  refine zv_ild (ins := .iload_n 3) (len := 1) hB (by decide +kernel) rfl rfl ?_
  refine hR.2.1 _ _ _ _ _ _ (by decide +kernel) i0 (by omega) ?_
  refine zv_con (ins := .bipush 63) (len := 2) hB (by decide +kernel) rfl ?_
  refine zv_and hB (by decide +kernel) (by decide) fun v v0 v1 => ?_
  refine zv_tsw (dflt := 1560) (lo := 0) (hi := 38) (offs := #[171, 224, 267, 290, 313, 336, 369, 428, 471, 534, 557, 580, 613, 646, 699, 742, 785, 828, 851, 884, 907, 940, 973, 1006, 1075, 1098, 1111, 1154, 1217, 1280, 1323, 1366, 1399, 1432, 1465, 1488, 1501, 1514, 1537]) (len := 171) hB (by decide +kernel) rfl ?_
  refine ⟨fun _ => ⟨204, rfl, zc_star hL hB hR i0 i6 hI k⟩, fun _ => ?_⟩
  refine ⟨fun _ => ⟨257, rfl, zc_walk hL hB hR i0 i6 hI k⟩, fun _ => ?_⟩
  refine ⟨fun _ => ⟨300, rfl, zc_gone hL hB hR i0 i6 hI k⟩, fun _ => ?_⟩
  refine ⟨fun _ => ⟨323, rfl, zc_hour hL hB hR i0 i6 hI k⟩, fun _ => ?_⟩
  refine ⟨fun _ => ⟨346, rfl, zc_clouds hL hB hR i0 i6 hI k⟩, fun _ => ?_⟩
  refine ⟨fun _ => ⟨369, rfl, zc_sight hL hB hR i0 i6 hI k⟩, fun _ => ?_⟩
  refine ⟨fun _ => ⟨402, rfl, zc_land hL hB hR i0 i6 hI k⟩, fun _ => ?_⟩
  refine ⟨fun _ => ⟨461, rfl, zc_ship hL hB hR i0 i6 hI k⟩, fun _ => ?_⟩
  refine ⟨fun _ => ⟨504, rfl, zc_feed hL hB hR i0 i6 hI k⟩, fun _ => ?_⟩
  refine ⟨fun _ => ⟨567, rfl, zc_law hL hB hR i0 i6 hI k k1⟩, fun _ => ?_⟩
  refine ⟨fun _ => ⟨590, rfl, zc_tale hL hB hR i0 i6 hI k k2⟩, fun _ => ?_⟩
  refine ⟨fun _ => ⟨613, rfl, zc_starIs hL hB hR i0 i6 hI k⟩, fun _ => ?_⟩
  refine ⟨fun _ => ⟨646, rfl, zc_seen hL hB hR i0 i6 hI k⟩, fun _ => ?_⟩
  refine ⟨fun _ => ⟨679, rfl, zc_line hL hB hR i0 i6 hI k⟩, fun _ => ?_⟩
  refine ⟨fun _ => ⟨732, rfl, zc_sky hL hB hR i0 i6 hI k⟩, fun _ => ?_⟩
  refine ⟨fun _ => ⟨775, rfl, zc_figure hL hB hR i0 i6 hI k⟩, fun _ => ?_⟩
  refine ⟨fun _ => ⟨818, rfl, zc_matched hL hB hR i0 i6 hI k⟩, fun _ => ?_⟩
  refine ⟨fun _ => ⟨861, rfl, zc_where hL hB hR i0 i6 hI k⟩, fun _ => ?_⟩
  refine ⟨fun _ => ⟨884, rfl, zc_when hL hB hR i0 i6 hI k⟩, fun _ => ?_⟩
  refine ⟨fun _ => ⟨917, rfl, zc_alike hL hB hR i0 i6 hI k⟩, fun _ => ?_⟩
  refine ⟨fun _ => ⟨940, rfl, zc_known hL hB hR i0 i6 hI k⟩, fun _ => ?_⟩
  refine ⟨fun _ => ⟨973, rfl, zc_named hL hB hR i0 i6 hI k⟩, fun _ => ?_⟩
  refine ⟨fun _ => ⟨1006, rfl, zc_sold hL hB hR i0 i6 hI k⟩, fun _ => ?_⟩
  refine ⟨fun _ => ⟨1039, rfl, zc_steered hL hB hR i0 i6 hI k⟩, fun _ => ?_⟩
  refine ⟨fun _ => ⟨1108, rfl, zc_hours hL hB hR i0 i6 hI k⟩, fun _ => ?_⟩
  refine ⟨fun _ => ⟨1131, rfl, zc_found hL hB hR i0 i6 hI k⟩, fun _ => ?_⟩
  refine ⟨fun _ => ⟨1144, rfl, zc_meeting hL hB hR i0 i6 hI k⟩, fun _ => ?_⟩
  refine ⟨fun _ => ⟨1187, rfl, zc_fastest hL hB hR i0 i6 hI k⟩, fun _ => ?_⟩
  refine ⟨fun _ => ⟨1250, rfl, zc_byTwo hL hB hR i0 i6 hI k⟩, fun _ => ?_⟩
  refine ⟨fun _ => ⟨1313, rfl, zc_both hL hB hR i0 i6 hI k⟩, fun _ => ?_⟩
  refine ⟨fun _ => ⟨1356, rfl, zc_hidden hL hB hR i0 i6 hI k⟩, fun _ => ?_⟩
  refine ⟨fun _ => ⟨1399, rfl, zc_log hL hB hR i0 i6 hI k⟩, fun _ => ?_⟩
  refine ⟨fun _ => ⟨1432, rfl, zc_over hL hB hR i0 i6 hI k⟩, fun _ => ?_⟩
  refine ⟨fun _ => ⟨1465, rfl, zc_home hL hB hR i0 i6 hI k⟩, fun _ => ?_⟩
  refine ⟨fun _ => ⟨1498, rfl, zc_seed hL hB hR i0 i6 hI k⟩, fun _ => ?_⟩
  refine ⟨fun _ => ⟨1521, rfl, zc_keep hL hB hR i0 i6 hI k⟩, fun _ => ?_⟩
  refine ⟨fun _ => ⟨1534, rfl, zc_undo hL hB hR i0 i6 hI k⟩, fun _ => ?_⟩
  refine ⟨fun _ => ⟨1547, rfl, zc_check hL hB hR i0 i6 hI k⟩, fun _ => ?_⟩
  refine ⟨fun _ => ⟨1570, rfl, zc_count hL hB hR i0 i6 hI k⟩, fun _ => ?_⟩
  exact ⟨1593, rfl, zw_tail hB i0 i6 hL (k f g hI)⟩
end
