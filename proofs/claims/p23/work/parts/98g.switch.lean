/-! The switch: one call of the law. -/
theorem zw_all {Lx : Nat} {xs : Nat → Int32} (hL : Lx ≤ 3072) : zw_body Lx xs zI := by
  intro good hB hR i f g hI i0 i6 k k1 k2
  refine zv_ald (ins := .aload_n 0) (len := 1) hB (by decide +kernel) rfl rfl rfl ?_
  refine zv_ild (ins := .iload_n 3) (len := 1) hB (by decide +kernel) rfl rfl ?_
  refine hR.2.1 _ _ _ _ _ _ (by decide +kernel) i0 (by omega) ?_
  refine zv_con (ins := .bipush 63) (len := 2) hB (by decide +kernel) rfl ?_
  refine zv_and hB (by decide +kernel) (by decide) fun v v0 v1 => ?_
  refine zv_tsw (dflt := 1560) (lo := 0) (hi := 38) (offs := #[171, 224, 267, 290, 313, 336, 369, 428, 471, 534, 557, 580, 613, 646, 699, 742, 785, 828, 851, 884, 907, 940, 973, 1006, 1075, 1098, 1111, 1154, 1217, 1280, 1323, 1366, 1399, 1432, 1465, 1488, 1501, 1514, 1537]) (len := 171) hB (by decide +kernel) rfl ?_
  refine ⟨fun _ => ⟨204, rfl, zc_star hL hB hR i0 i6 hI k⟩, fun _ => ?_⟩
  refine ⟨fun _ => ⟨257, rfl, zc_walk hL hB hR i0 i6 hI k⟩, fun _ => ?_⟩
  refine ⟨fun _ => ⟨300, rfl, zc_gone hL hB hR i0 i6 hI k⟩, fun _ => ?_⟩
  refine ⟨fun _ => ⟨323, rfl, zc_hour hL hB hR i0 i6 hI k⟩, fun _ => ?_⟩
  refine ⟨fun _ => ⟨346, rfl, zc_clouds hL hB hR i0 i6 hI k⟩, fun _ => ?_⟩
  refine ⟨fun _ => ⟨369, rfl, zc_sight hL hB hR i0 i6 hI k⟩, fun _ => ?_⟩
  refine ⟨fun _ => ⟨402, rfl, zc_land hL hB hR i0 i6 hI k⟩, fun _ => ?_⟩
  refine ⟨fun _ => ⟨461, rfl, zc_ship hL hB hR i0 i6 hI k⟩, fun _ => ?_⟩
  refine ⟨fun _ => ⟨504, rfl, zc_feed hL hB hR i0 i6 hI k⟩, fun _ => ?_⟩
  refine ⟨fun _ => ⟨567, rfl, zc_law hL hB hR i0 i6 hI k k1⟩, fun _ => ?_⟩
  refine ⟨fun _ => ⟨590, rfl, zc_tale hL hB hR i0 i6 hI k k2⟩, fun _ => ?_⟩
  refine ⟨fun _ => ⟨613, rfl, zc_starIs hL hB hR i0 i6 hI k⟩, fun _ => ?_⟩
  refine ⟨fun _ => ⟨646, rfl, zc_seen hL hB hR i0 i6 hI k⟩, fun _ => ?_⟩
  refine ⟨fun _ => ⟨679, rfl, zc_line hL hB hR i0 i6 hI k⟩, fun _ => ?_⟩
  refine ⟨fun _ => ⟨732, rfl, zc_sky hL hB hR i0 i6 hI k⟩, fun _ => ?_⟩
  refine ⟨fun _ => ⟨775, rfl, zc_figure hL hB hR i0 i6 hI k⟩, fun _ => ?_⟩
  refine ⟨fun _ => ⟨818, rfl, zc_matched hL hB hR i0 i6 hI k⟩, fun _ => ?_⟩
  refine ⟨fun _ => ⟨861, rfl, zc_where hL hB hR i0 i6 hI k⟩, fun _ => ?_⟩
  refine ⟨fun _ => ⟨884, rfl, zc_when hL hB hR i0 i6 hI k⟩, fun _ => ?_⟩
  refine ⟨fun _ => ⟨917, rfl, zc_alike hL hB hR i0 i6 hI k⟩, fun _ => ?_⟩
  refine ⟨fun _ => ⟨940, rfl, zc_known hL hB hR i0 i6 hI k⟩, fun _ => ?_⟩
  refine ⟨fun _ => ⟨973, rfl, zc_named hL hB hR i0 i6 hI k⟩, fun _ => ?_⟩
  refine ⟨fun _ => ⟨1006, rfl, zc_sold hL hB hR i0 i6 hI k⟩, fun _ => ?_⟩
  refine ⟨fun _ => ⟨1039, rfl, zc_steered hL hB hR i0 i6 hI k⟩, fun _ => ?_⟩
  refine ⟨fun _ => ⟨1108, rfl, zc_hours hL hB hR i0 i6 hI k⟩, fun _ => ?_⟩
  refine ⟨fun _ => ⟨1131, rfl, zc_found hL hB hR i0 i6 hI k⟩, fun _ => ?_⟩
  refine ⟨fun _ => ⟨1144, rfl, zc_meeting hL hB hR i0 i6 hI k⟩, fun _ => ?_⟩
  refine ⟨fun _ => ⟨1187, rfl, zc_fastest hL hB hR i0 i6 hI k⟩, fun _ => ?_⟩
  refine ⟨fun _ => ⟨1250, rfl, zc_byTwo hL hB hR i0 i6 hI k⟩, fun _ => ?_⟩
  refine ⟨fun _ => ⟨1313, rfl, zc_both hL hB hR i0 i6 hI k⟩, fun _ => ?_⟩
  refine ⟨fun _ => ⟨1356, rfl, zc_hidden hL hB hR i0 i6 hI k⟩, fun _ => ?_⟩
  refine ⟨fun _ => ⟨1399, rfl, zc_log hL hB hR i0 i6 hI k⟩, fun _ => ?_⟩
  refine ⟨fun _ => ⟨1432, rfl, zc_over hL hB hR i0 i6 hI k⟩, fun _ => ?_⟩
  refine ⟨fun _ => ⟨1465, rfl, zc_home hL hB hR i0 i6 hI k⟩, fun _ => ?_⟩
  refine ⟨fun _ => ⟨1498, rfl, zc_seed hL hB hR i0 i6 hI k⟩, fun _ => ?_⟩
  refine ⟨fun _ => ⟨1521, rfl, zc_keep hL hB hR i0 i6 hI k⟩, fun _ => ?_⟩
  refine ⟨fun _ => ⟨1534, rfl, zc_undo hL hB hR i0 i6 hI k⟩, fun _ => ?_⟩
  refine ⟨fun _ => ⟨1547, rfl, zc_check hL hB hR i0 i6 hI k⟩, fun _ => ?_⟩
  refine ⟨fun _ => ⟨1570, rfl, zc_count hL hB hR i0 i6 hI k⟩, fun _ => ?_⟩
  exact ⟨1593, rfl, zw_tail hB i0 i6 hL (k f g hI)⟩
