/-! Certificates. -/
def zxs0 : List (Nat × zSig) := []
def zxe0 : zCe := ((z_KF8, z_KC8, z_KL8, z_KT8, [], [(12, 0), (20, 1), (28, 2), (36, 3), (44, 4)], [(79, 0, 5, .ofNat 0)], some 1), [], 4000)
theorem zxk0 : z_chk z_TYs z_PH z_cl z_FT z_MT zxs0 [] z_PS zxm1 zxg0 zxe0 = true := by decide +kernel
theorem zxo0 : z_OK z_TB z_cl z_FT z_TYs z_PH z_KX zxm1.1 zxm1.2.1 zxm1.2.2.1 zxm1.2.2.2.1 zxg0 := z_meth (mm := zxm1) (ce := zxe0) (SG := zxs0) (RO := []) (PHS := z_PS) (MT := z_MT) zxp1 (z_ks8 _ (fun _ h => List.mem_cons_of_mem _ h) _ _ _ _ (fun j r h h2 => by cases h; cases h2; rfl)) (fun _ _ => rfl) (fun _ _ => zs_KX_p) z_phk (z_fil _ (fun _ h => absurd h List.not_mem_nil)) zxk0
def zxs1 : List (Nat × zSig) := []
def zxe1 : zCe := ((z_KF8, z_KC8, z_KL8, z_KT8, [], [(12, 6), (20, 7), (28, 8), (36, 9), (44, 10)], [(79, 0, 11, .ofNat 0)], some 1), [], 4000)
theorem zxk1 : z_chk z_TYs z_PH z_cl z_FT z_MT zxs1 [] z_PS zxm1 zxg1 zxe1 = true := by decide +kernel
theorem zxo1 : z_OK z_TB z_cl z_FT z_TYs z_PH z_KX zxm1.1 zxm1.2.1 zxm1.2.2.1 zxm1.2.2.2.1 zxg1 := z_meth (mm := zxm1) (ce := zxe1) (SG := zxs1) (RO := []) (PHS := z_PS) (MT := z_MT) zxp1 (z_ks8 _ (fun _ h => List.mem_cons_of_mem _ h) _ _ _ _ (fun j r h h2 => by cases h; cases h2; rfl)) (fun _ _ => rfl) (fun _ _ => zs_KX_p) z_phk (z_fil _ (fun _ h => absurd h List.not_mem_nil)) zxk1
def zxs2 : List (Nat × zSig) := []
def zxe2 : zCe := ((z_KF8, z_KC8, z_KL8, z_KT8, [], [(12, 12), (20, 13), (28, 14), (36, 15), (44, 16)], [(79, 0, 17, .ofNat 0)], some 1), [], 4000)
theorem zxk2 : z_chk z_TYs z_PH z_cl z_FT z_MT zxs2 [] z_PS zxm1 zxg2 zxe2 = true := by decide +kernel
theorem zxo2 : z_OK z_TB z_cl z_FT z_TYs z_PH z_KX zxm1.1 zxm1.2.1 zxm1.2.2.1 zxm1.2.2.2.1 zxg2 := z_meth (mm := zxm1) (ce := zxe2) (SG := zxs2) (RO := []) (PHS := z_PS) (MT := z_MT) zxp1 (z_ks8 _ (fun _ h => List.mem_cons_of_mem _ h) _ _ _ _ (fun j r h h2 => by cases h; cases h2; rfl)) (fun _ _ => rfl) (fun _ _ => zs_KX_p) z_phk (z_fil _ (fun _ h => absurd h List.not_mem_nil)) zxk2
def zxs3 : List (Nat × zSig) := []
def zxe3 : zCe := ((z_KF7, z_KC7, z_KL7, z_KT7, [], [(7, 18), (20, 19)], [(25, 0, 20, .ofNat 0)], some 2), [], 4000)
theorem zxk3 : z_chk z_TYs z_PH z_cl z_FT z_MT zxs3 [] z_PS zxm2 zxg3 zxe3 = true := by decide +kernel
theorem zxo3 : z_OK z_TB z_cl z_FT z_TYs z_PH z_KX zxm2.1 zxm2.2.1 zxm2.2.2.1 zxm2.2.2.2.1 zxg3 := z_meth (mm := zxm2) (ce := zxe3) (SG := zxs3) (RO := []) (PHS := z_PS) (MT := z_MT) zxp2 (z_ks7 _ (fun _ h => List.mem_cons_of_mem _ h) _ _ _ _ (fun j r h h2 => by cases h; cases h2; rfl)) (fun _ _ => rfl) (fun _ _ => zs_KX_p) z_phk (z_fil _ (fun _ h => absurd h List.not_mem_nil)) zxk3
def zxs4 : List (Nat × zSig) := []
def zxe4 : zCe := ((z_KF7, z_KC7, z_KL7, z_KT7, [], [(7, 21), (20, 22)], [(25, 0, 23, .ofNat 0)], some 2), [], 4000)
theorem zxk4 : z_chk z_TYs z_PH z_cl z_FT z_MT zxs4 [] z_PS zxm2 zxg4 zxe4 = true := by decide +kernel
theorem zxo4 : z_OK z_TB z_cl z_FT z_TYs z_PH z_KX zxm2.1 zxm2.2.1 zxm2.2.2.1 zxm2.2.2.2.1 zxg4 := z_meth (mm := zxm2) (ce := zxe4) (SG := zxs4) (RO := []) (PHS := z_PS) (MT := z_MT) zxp2 (z_ks7 _ (fun _ h => List.mem_cons_of_mem _ h) _ _ _ _ (fun j r h h2 => by cases h; cases h2; rfl)) (fun _ _ => rfl) (fun _ _ => zs_KX_p) z_phk (z_fil _ (fun _ h => absurd h List.not_mem_nil)) zxk4
def zxs5 : List (Nat × zSig) := []
def zxe5 : zCe := ((z_KF10, z_KC10, z_KL10, z_KT10, [], [(8, 24)], [(18, 0, 25, .ofNat 0)], some 3), [], 4000)
theorem zxk5 : z_chk z_TYs z_PH z_cl z_FT z_MT zxs5 [] z_PS zxm3 zxg5 zxe5 = true := by decide +kernel
theorem zxo5 : z_OK z_TB z_cl z_FT z_TYs z_PH z_KX zxm3.1 zxm3.2.1 zxm3.2.2.1 zxm3.2.2.2.1 zxg5 := z_meth (mm := zxm3) (ce := zxe5) (SG := zxs5) (RO := []) (PHS := z_PS) (MT := z_MT) zxp3 (z_ks10 _ (fun _ h => List.mem_cons_of_mem _ h) _ _ _ _ (fun j r h h2 => by cases h; cases h2; rfl)) (fun _ _ => rfl) (fun _ _ => zs_KX_p) z_phk (z_fil _ (fun _ h => absurd h List.not_mem_nil)) zxk5
def zxs6 : List (Nat × zSig) := []
def zxe6 : zCe := ((z_KF2, z_KC2, z_KL2, z_KT2, [], [(8, 129), (17, 130), (30, 28), (38, 29), (46, 30), (54, 31), (90, 32), (98, 33)], [], some 4), [], 4000)
theorem zxf6 : zc_okf z_TYs [(129, 26), (130, 27)] = true := by decide +kernel
theorem zxk6 : zc_chk (zs_hk zxg6 85 13) z_TYs z_PH z_cl z_FT z_MT zxs6 [] z_PS zxm4 zxg6 zxe6 [(129, 26), (130, 27)] 4 34 [] = true := by decide +kernel
theorem zxo6 : z_OK z_TB z_cl z_FT z_TYs z_PH z_KX zxm4.1 zxm4.2.1 zxm4.2.2.1 zxm4.2.2.2.1 zxg6 := zc_OK (nw := []) (k0 := .inl (.ofNat 0, .ofNat 0)) (ci := 4) (tau := 34) (mk := (8, 509)) (rm := (3, 100)) (f := [(129, 26), (130, 27)]) (mm := zxm4) (ce := zxe6) (SG := zxs6) (RO := []) (PHS := z_PS) (MT := z_MT) (hk := (zs_hk zxg6 85 13)) zxp4 (z_ks2 _ (fun _ h => List.mem_cons_of_mem _ h) _ _ _ _ (fun j r h h2 => by cases h; cases h2; rfl)) (fun _ _ => rfl) (fun _ _ => zs_KX_p) z_phk (z_fil _ (fun _ h => absurd h List.not_mem_nil)) (zs_hk_ok (k := 48) (n := 13) (i := 50) (tx := "huimrcknsexyd") (fun _ _ _ _ h => h.1) zs_wt (fun v hv => (List.mem_filter.mp hv).2) (by decide) (List.mem_filter.mpr ⟨List.mem_of_getElem? (i := 254) (by decide +kernel), rfl⟩) (by decide +kernel) (by decide +kernel) ⟨by decide, by decide⟩) rfl zxf6 zxk6
def zxs7 : List (Nat × zSig) := []
def zxe7 : zCe := ((z_KF2, z_KC2, z_KL2, z_KT2, [], [(8, 129), (17, 130), (30, 37), (38, 38), (46, 39), (54, 40), (90, 41), (98, 42)], [], some 4), [], 4000)
theorem zxf7 : zc_okf z_TYs [(129, 35), (130, 36)] = true := by decide +kernel
theorem zxk7 : zc_chk (zs_hk zxg7 85 13) z_TYs z_PH z_cl z_FT z_MT zxs7 [] z_PS zxm4 zxg7 zxe7 [(129, 35), (130, 36)] 4 43 [] = true := by decide +kernel
theorem zxo7 : z_OK z_TB z_cl z_FT z_TYs z_PH z_KX zxm4.1 zxm4.2.1 zxm4.2.2.1 zxm4.2.2.2.1 zxg7 := zc_OK (nw := []) (k0 := .inl (.ofNat 0, .ofNat 0)) (ci := 4) (tau := 43) (mk := (8, 509)) (rm := (3, 100)) (f := [(129, 35), (130, 36)]) (mm := zxm4) (ce := zxe7) (SG := zxs7) (RO := []) (PHS := z_PS) (MT := z_MT) (hk := (zs_hk zxg7 85 13)) zxp4 (z_ks2 _ (fun _ h => List.mem_cons_of_mem _ h) _ _ _ _ (fun j r h h2 => by cases h; cases h2; rfl)) (fun _ _ => rfl) (fun _ _ => zs_KX_p) z_phk (z_fil _ (fun _ h => absurd h List.not_mem_nil)) (zs_hk_ok (k := 48) (n := 13) (i := 50) (tx := "huimrcknsexyd") (fun _ _ _ _ h => h.1) zs_wt (fun v hv => (List.mem_filter.mp hv).2) (by decide) (List.mem_filter.mpr ⟨List.mem_of_getElem? (i := 254) (by decide +kernel), rfl⟩) (by decide +kernel) (by decide +kernel) ⟨by decide, by decide⟩) rfl zxf7 zxk7
def zxs8 : List (Nat × zSig) := []
def zxe8 : zCe := ((z_KF3, z_KC3, z_KL3, z_KT3, [], [], [(29, 0, 44, .ofNat 0)], some 5), [], 4000)
theorem zxk8 : z_chk z_TYs z_PH z_cl z_FT z_MT zxs8 [] z_PS zxm7 zxg8 zxe8 = true := by decide +kernel
theorem zxo8 : z_OK z_TB z_cl z_FT z_TYs z_PH z_KX zxm7.1 zxm7.2.1 zxm7.2.2.1 zxm7.2.2.2.1 zxg8 := z_meth (mm := zxm7) (ce := zxe8) (SG := zxs8) (RO := []) (PHS := z_PS) (MT := z_MT) zxp7 (z_ks3 _ (fun _ h => List.mem_cons_of_mem _ h) _ _ _ _ (fun j r h h2 => by cases h; cases h2; rfl)) (fun _ _ => rfl) (fun _ _ => zs_KX_p) z_phk (z_fil _ (fun _ h => absurd h List.not_mem_nil)) zxk8
def zxs9 : List (Nat × zSig) := []
def zxe9 : zCe := ((z_KF9, z_KC9, z_KL9, z_KT9, [], [(17, 45)], [(22, 0, 46, .ofNat 0)], some 6), [], 4000)
theorem zxk9 : z_chk z_TYs z_PH z_cl z_FT z_MT zxs9 [] z_PS zxm8 zxg9 zxe9 = true := by decide +kernel
theorem zxo9 : z_OK z_TB z_cl z_FT z_TYs z_PH z_KX zxm8.1 zxm8.2.1 zxm8.2.2.1 zxm8.2.2.2.1 zxg9 := z_meth (mm := zxm8) (ce := zxe9) (SG := zxs9) (RO := []) (PHS := z_PS) (MT := z_MT) zxp8 (z_ks9 _ (fun _ h => List.mem_cons_of_mem _ h) _ _ _ _ (fun j r h h2 => by cases h; cases h2; rfl)) (fun _ _ => rfl) (fun _ _ => zs_KX_p) z_phk (z_fil _ (fun _ h => absurd h List.not_mem_nil)) zxk9
def zxs10 : List (Nat × zSig) := []
def zxe10 : zCe := ((z_KF9, z_KC9, z_KL9, z_KT9, [], [(17, 47)], [(22, 0, 48, .ofNat 0)], some 6), [], 4000)
theorem zxk10 : z_chk z_TYs z_PH z_cl z_FT z_MT zxs10 [] z_PS zxm8 zxg10 zxe10 = true := by decide +kernel
theorem zxo10 : z_OK z_TB z_cl z_FT z_TYs z_PH z_KX zxm8.1 zxm8.2.1 zxm8.2.2.1 zxm8.2.2.2.1 zxg10 := z_meth (mm := zxm8) (ce := zxe10) (SG := zxs10) (RO := []) (PHS := z_PS) (MT := z_MT) zxp8 (z_ks9 _ (fun _ h => List.mem_cons_of_mem _ h) _ _ _ _ (fun j r h h2 => by cases h; cases h2; rfl)) (fun _ _ => rfl) (fun _ _ => zs_KX_p) z_phk (z_fil _ (fun _ h => absurd h List.not_mem_nil)) zxk10
def zxs11 : List (Nat × zSig) := []
def zxe11 : zCe := ((z_KF11, z_KC11, z_KL11, z_KT11, [], [(22, 49), (40, 50), (48, 51)], [(63, 0, 52, .ofNat 0)], some 7), [], 4000)
theorem zxk11 : z_chk z_TYs z_PH z_cl z_FT z_MT zxs11 [] z_PS zxm9 zxg11 zxe11 = true := by decide +kernel
theorem zxo11 : z_OK z_TB z_cl z_FT z_TYs z_PH z_KX zxm9.1 zxm9.2.1 zxm9.2.2.1 zxm9.2.2.2.1 zxg11 := z_meth (mm := zxm9) (ce := zxe11) (SG := zxs11) (RO := []) (PHS := z_PS) (MT := z_MT) zxp9 (z_ks11 _ (fun _ h => List.mem_cons_of_mem _ h) _ _ _ _ (fun j r h h2 => by cases h; cases h2; rfl)) (fun _ _ => rfl) (fun _ _ => zs_KX_p) z_phk (z_fil _ (fun _ h => absurd h List.not_mem_nil)) zxk11
def zxs12 : List (Nat × zSig) := []
def zxe12 : zCe := ((z_KF11, z_KC11, z_KL11, z_KT11, [], [(22, 53), (40, 54), (48, 55)], [(63, 0, 56, .ofNat 0)], some 7), [], 4000)
theorem zxk12 : z_chk z_TYs z_PH z_cl z_FT z_MT zxs12 [] z_PS zxm9 zxg12 zxe12 = true := by decide +kernel
theorem zxo12 : z_OK z_TB z_cl z_FT z_TYs z_PH z_KX zxm9.1 zxm9.2.1 zxm9.2.2.1 zxm9.2.2.2.1 zxg12 := z_meth (mm := zxm9) (ce := zxe12) (SG := zxs12) (RO := []) (PHS := z_PS) (MT := z_MT) zxp9 (z_ks11 _ (fun _ h => List.mem_cons_of_mem _ h) _ _ _ _ (fun j r h h2 => by cases h; cases h2; rfl)) (fun _ _ => rfl) (fun _ _ => zs_KX_p) z_phk (z_fil _ (fun _ h => absurd h List.not_mem_nil)) zxk12
def zxs13 : List (Nat × zSig) := []
def zxe13 : zCe := ((z_KF4, z_KC4, z_KL4, z_KT4, [], [(7, 57), (15, 58), (23, 59)], [(48, 0, 60, .ofNat 0)], some 8), [], 4000)
theorem zxk13 : z_chk z_TYs z_PH z_cl z_FT z_MT zxs13 [] z_PS zxm10 zxg13 zxe13 = true := by decide +kernel
theorem zxo13 : z_OK z_TB z_cl z_FT z_TYs z_PH z_KX zxm10.1 zxm10.2.1 zxm10.2.2.1 zxm10.2.2.2.1 zxg13 := z_meth (mm := zxm10) (ce := zxe13) (SG := zxs13) (RO := []) (PHS := z_PS) (MT := z_MT) zxp10 (z_ks4 _ (fun _ h => List.mem_cons_of_mem _ h) _ _ _ _ (fun j r h h2 => by cases h; cases h2; rfl)) (fun _ _ => rfl) (fun _ _ => zs_KX_p) z_phk (z_fil _ (fun _ h => absurd h List.not_mem_nil)) zxk13
def zxs14 : List (Nat × zSig) := []
def zxe14 : zCe := ((z_KF6, z_KC6, z_KL6, z_KT6, [], [(27, 61), (36, 62), (45, 63), (54, 64), (63, 65), (82, 66), (91, 67), (100, 68), (109, 69)], [(114, 0, 70, .ofNat 0)], some 9), [], 4000)
theorem zxk14 : z_chk z_TYs z_PH z_cl z_FT z_MT zxs14 [] z_PS zxm11 zxg14 zxe14 = true := by decide +kernel
theorem zxo14 : z_OK z_TB z_cl z_FT z_TYs z_PH z_KX zxm11.1 zxm11.2.1 zxm11.2.2.1 zxm11.2.2.2.1 zxg14 := z_meth (mm := zxm11) (ce := zxe14) (SG := zxs14) (RO := []) (PHS := z_PS) (MT := z_MT) zxp11 (z_ks6 _ (fun _ h => List.mem_cons_of_mem _ h) _ _ _ _ (fun j r h h2 => by cases h; cases h2; rfl)) (fun _ _ => rfl) (fun _ _ => zs_KX_p) z_phk (z_fil _ (fun _ h => absurd h List.not_mem_nil)) zxk14
def zxs15 : List (Nat × zSig) := []
def zxe15 : zCe := ((z_KF5, z_KC5, z_KL5, z_KT5, [], [(8, 71), (17, 72), (25, 73), (38, 74), (46, 75)], [(56, 0, 76, .ofNat 0)], some 10), [], 4000)
theorem zxk15 : z_chk z_TYs z_PH z_cl z_FT z_MT zxs15 [] z_PS zxm12 zxg15 zxe15 = true := by decide +kernel
theorem zxo15 : z_OK z_TB z_cl z_FT z_TYs z_PH z_KX zxm12.1 zxm12.2.1 zxm12.2.2.1 zxm12.2.2.2.1 zxg15 := z_meth (mm := zxm12) (ce := zxe15) (SG := zxs15) (RO := []) (PHS := z_PS) (MT := z_MT) zxp12 (z_ks5 _ (fun _ h => List.mem_cons_of_mem _ h) _ _ _ _ (fun j r h h2 => by cases h; cases h2; rfl)) (fun _ _ => rfl) (fun _ _ => zs_KX_p) z_phk (z_fil _ (fun _ h => absurd h List.not_mem_nil)) zxk15
def zxs16 : List (Nat × zSig) := []
def zxe16 : zCe := ((z_KF1, z_KC1, z_KL1, z_KT1, [], [(7, 77), (15, 78), (23, 79), (31, 80), (39, 81), (48, 82), (57, 83)], [(62, 0, 84, .ofNat 0)], some 11), [], 4000)
theorem zxk16 : z_chk z_TYs z_PH z_cl z_FT z_MT zxs16 [] z_PS zxm13 zxg16 zxe16 = true := by decide +kernel
theorem zxo16 : z_OK z_TB z_cl z_FT z_TYs z_PH z_KX zxm13.1 zxm13.2.1 zxm13.2.2.1 zxm13.2.2.2.1 zxg16 := z_meth (mm := zxm13) (ce := zxe16) (SG := zxs16) (RO := []) (PHS := z_PS) (MT := z_MT) zxp13 (z_ks1 _ (fun _ h => List.mem_cons_of_mem _ h) _ _ _ _ (fun j r h h2 => by cases h; cases h2; rfl)) (fun _ _ => rfl) (fun _ _ => zs_KX_p) z_phk (z_fil _ (fun _ h => absurd h List.not_mem_nil)) zxk16
def zxs17 : List (Nat × zSig) := [(1, zxg0), (1, zxg1), (1, zxg2), (2, zxg3), (2, zxg4), (3, zxg5), (4, zxg6), (4, zxg7), (7, zxg8), (8, zxg9), (8, zxg10), (9, zxg11), (9, zxg12), (10, zxg13), (11, zxg14), (12, zxg15), (13, zxg16)]
def zxe17 : zCe := ((z_KF0, z_KC0, z_KL0, z_KT0, [(9, 0), (20, 1), (31, 2), (42, 3), (53, 4), (69, 5), (80, 6), (91, 7), (113, 8), (124, 9), (135, 10), (154, 11), (173, 12), (195, 13), (206, 14), (221, 15), (232, 16)], [(242, 85)], [(247, 0, 86, .ofNat 0)], some 0), [], 4000)
theorem zxk17 : z_chk z_TYs z_PH z_cl z_FT z_MT zxs17 [] z_PS zxm0 zxg17 zxe17 = true := by decide +kernel
theorem zxo17 : z_OK z_TB z_cl z_FT z_TYs z_PH z_KX zxm0.1 zxm0.2.1 zxm0.2.2.1 zxm0.2.2.2.1 zxg17 := z_meth (mm := zxm0) (ce := zxe17) (SG := zxs17) (RO := []) (PHS := z_PS) (MT := z_MT) zxp0 (z_ks0 _ (fun _ h => List.mem_cons_of_mem _ h) _ _ _ _ (fun j r h h2 => by cases h; cases h2; rfl)) (fun _ _ => rfl) (fun _ _ => zs_KX_p) z_phk (z_fil _ (List.forall_mem_cons.mpr ⟨z_lnk zxt1 zxo0, List.forall_mem_cons.mpr ⟨z_lnk zxt1 zxo1, List.forall_mem_cons.mpr ⟨z_lnk zxt1 zxo2, List.forall_mem_cons.mpr ⟨z_lnk zxt2 zxo3, List.forall_mem_cons.mpr ⟨z_lnk zxt2 zxo4, List.forall_mem_cons.mpr ⟨z_lnk zxt3 zxo5, List.forall_mem_cons.mpr ⟨z_lnk zxt4 zxo6, List.forall_mem_cons.mpr ⟨z_lnk zxt4 zxo7, List.forall_mem_cons.mpr ⟨z_lnk zxt7 zxo8, List.forall_mem_cons.mpr ⟨z_lnk zxt8 zxo9, List.forall_mem_cons.mpr ⟨z_lnk zxt8 zxo10, List.forall_mem_cons.mpr ⟨z_lnk zxt9 zxo11, List.forall_mem_cons.mpr ⟨z_lnk zxt9 zxo12, List.forall_mem_cons.mpr ⟨z_lnk zxt10 zxo13, List.forall_mem_cons.mpr ⟨z_lnk zxt11 zxo14, List.forall_mem_cons.mpr ⟨z_lnk zxt12 zxo15, List.forall_mem_cons.mpr ⟨z_lnk zxt13 zxo16, fun _ h => absurd h List.not_mem_nil⟩⟩⟩⟩⟩⟩⟩⟩⟩⟩⟩⟩⟩⟩⟩⟩⟩)) zxk17
def zxs18 : List (Nat × zSig) := []
def zxe18 : zCe := ((z_KF13, z_KC13, z_KL13, z_KT13, [], [(8, 87), (17, 88), (26, 89), (35, 90), (44, 91), (53, 92), (61, 93), (69, 94), (77, 95), (85, 96), (94, 97), (102, 98), (110, 99), (118, 100), (126, 101), (135, 102), (143, 103), (151, 104), (159, 105), (167, 106), (175, 107), (183, 108), (191, 109), (199, 110), (207, 111), (216, 112), (225, 113), (233, 114), (241, 115), (249, 116), (257, 117), (265, 118), (273, 119), (282, 120), (291, 121), (300, 122), (309, 123), (317, 124), (325, 125), (333, 126), (342, 127)], [], some 12), [], 4000)
theorem zxf18 : zc_okf z_TYs [] = true := by decide +kernel
theorem zxk18 : zc_chk z_non z_TYs z_PH z_cl z_FT z_MT zxs18 [] z_PS zxm198 zxg18 zxe18 [] 12 128 [((0, 12, 0, some 131), .inl (.ofNat 4, .ofNat 4)), ((0, 12, 0, some 132), .inl (.ofNat 3, .ofNat 3)), ((0, 12, 0, some 133), .inl (.ofNat 1, .ofNat 1))] = true := by decide +kernel
theorem zxo18 : z_OK z_TB z_cl z_FT z_TYs z_PH z_KX zxm198.1 zxm198.2.1 zxm198.2.2.1 zxm198.2.2.2.1 zxg18 := zc_OK (nw := [((0, 12, 0, some 131), .inl (.ofNat 4, .ofNat 4)), ((0, 12, 0, some 132), .inl (.ofNat 3, .ofNat 3)), ((0, 12, 0, some 133), .inl (.ofNat 1, .ofNat 1))]) (k0 := .inl (.ofNat 0, .ofNat 0)) (ci := 12) (tau := 128) (mk := (41, 36107)) (rm := (1, 12)) (f := []) (mm := zxm198) (ce := zxe18) (SG := zxs18) (RO := []) (PHS := z_PS) (MT := z_MT) (hk := z_non) zxp198 (z_ks13 _ (fun _ h => List.mem_cons_of_mem _ h) _ _ _ _ (fun j r h h2 => by cases h; cases h2; rfl)) (fun _ _ => rfl) (fun _ _ => zs_KX_p) z_phk (z_fil _ (fun _ h => absurd h List.not_mem_nil)) z_non_ok rfl zxf18 zxk18
