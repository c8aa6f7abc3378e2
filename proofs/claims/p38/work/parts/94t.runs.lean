/-! Certificates. -/
def zxs356 : List (Nat × zSig) := []
def zxe356 : zCe := ((z_KF7, z_KC7, z_KL7, z_KT7, [], [], [], none), [], 4000)
theorem zxk356 : z_chk z_TYs z_PH z_cl z_FT z_MT zxs356 [] z_PS zxm192 zxg356 zxe356 = true := by decide +kernel
theorem zxo356 : z_OK z_TB z_cl z_FT z_TYs z_PH z_KX zxm192.1 zxm192.2.1 zxm192.2.2.1 zxm192.2.2.2.1 zxg356 := z_meth (mm := zxm192) (ce := zxe356) (SG := zxs356) (RO := []) (PHS := z_PS) (MT := z_MT) zxp192 (z_ks7 _ (fun _ h => List.mem_cons_of_mem _ h) _ _ _ _ (fun j r h _ => by cases h)) (fun j h => by cases h) (fun _ _ => zs_KX_p) z_phk (z_fil _ (fun _ h => absurd h List.not_mem_nil)) zxk356
def zxs357 : List (Nat × zSig) := [(125, zxg355), (192, zxg356), (102, zxg130)]
def zxe357 : zCe := ((z_KF0, z_KC0, z_KL0, z_KT0, [(8, 0), (19, 1), (34, 2)], [], [], none), [], 4000)
theorem zxk357 : z_chk z_TYs z_PH z_cl z_FT z_MT zxs357 [] z_PS zxm191 zxg357 zxe357 = true := by decide +kernel
theorem zxo357 : z_OK z_TB z_cl z_FT z_TYs z_PH z_KX zxm191.1 zxm191.2.1 zxm191.2.2.1 zxm191.2.2.2.1 zxg357 := z_meth (mm := zxm191) (ce := zxe357) (SG := zxs357) (RO := []) (PHS := z_PS) (MT := z_MT) zxp191 (z_ks0 _ (fun _ h => List.mem_cons_of_mem _ h) _ _ _ _ (fun j r h _ => by cases h)) (fun j h => by cases h) (fun _ _ => zs_KX_p) z_phk (z_fil _ (List.forall_mem_cons.mpr ⟨z_lnk zxt125 zxo355, List.forall_mem_cons.mpr ⟨z_lnk zxt192 zxo356, List.forall_mem_cons.mpr ⟨z_lnk zxt102 zxo130, fun _ h => absurd h List.not_mem_nil⟩⟩⟩)) zxk357
def zxs358 : List (Nat × zSig) := [(257, zxg142)]
def zxe358 : zCe := ((z_KF13, z_KC13, z_KL13, z_KT13, [(23, 0)], [], [], none), [], 4000)
theorem zxw358 : zb_wf z_TYs z_cl zyCo [70, 72] [.inl 0, .inl 1] = true := by decide +kernel
theorem zxhk358 : z_hok z_TB z_cl z_TYs z_PH z_KX zxm319 zxg358 (zcp_hk z_TYs [70, 72] zxg358) := zcp_hk_ok rfl ⟨by decide, by decide⟩ zxw358 (by decide +kernel) (zb_Jn zxw358 (by decide +kernel))
theorem zxk358 : z_chk0 (zcp_hk z_TYs [70, 72] zxg358) z_TYs z_PH z_cl z_FT z_MT zxs358 [] z_PS zxm319 zxg358 zxe358 = true := by decide +kernel
theorem zxq358 : z_chkP (zcp_hk z_TYs [70, 72] zxg358) z_TYs z_PH z_cl z_FT z_MT zxs358 [] z_PS zxm319 zxg358 zxe358 [] = true := by decide +kernel
theorem zxo358 : z_OK z_TB z_cl z_FT z_TYs z_PH z_KX zxm319.1 zxm319.2.1 zxm319.2.2.1 zxm319.2.2.2.1 zxg358 := z_methH (mm := zxm319) (ce := zxe358) (SG := zxs358) (RO := []) (PHS := z_PS) (MT := z_MT) (hk := (zcp_hk z_TYs [70, 72] zxg358)) zxp319 (z_ks13 _ (fun _ h => List.mem_cons_of_mem _ h) _ _ _ _ (fun j r h _ => by cases h)) (fun j h => by cases h) (fun _ _ => zs_KX_p) z_phk (z_fil _ (List.forall_mem_cons.mpr ⟨z_lnk zxt257 zxo142, fun _ h => absurd h List.not_mem_nil⟩)) zxhk358 zxk358 zxq358
def zxs359 : List (Nat × zSig) := []
def zxe359 : zCe := ((z_KF0, z_KC0, z_KL0, z_KT0, [], [], [], none), [], 4000)
theorem zxk359 : z_chk z_TYs z_PH z_cl z_FT z_MT zxs359 [] z_PS zxm193 zxg359 zxe359 = true := by decide +kernel
theorem zxo359 : z_OK z_TB z_cl z_FT z_TYs z_PH z_KX zxm193.1 zxm193.2.1 zxm193.2.2.1 zxm193.2.2.2.1 zxg359 := z_meth (mm := zxm193) (ce := zxe359) (SG := zxs359) (RO := []) (PHS := z_PS) (MT := z_MT) zxp193 (z_ks0 _ (fun _ h => List.mem_cons_of_mem _ h) _ _ _ _ (fun j r h _ => by cases h)) (fun j h => by cases h) (fun _ _ => zs_KX_p) z_phk (z_fil _ (fun _ h => absurd h List.not_mem_nil)) zxk359
def zxs360 : List (Nat × zSig) := []
def zxe360 : zCe := ((z_KF13, z_KC13, z_KL13, z_KT13, [], [], [], none), [], 4000)
theorem zxk360 : z_chk z_TYs z_PH z_cl z_FT z_MT zxs360 [] z_PS zxm320 zxg360 zxe360 = true := by decide +kernel
theorem zxo360 : z_OK z_TB z_cl z_FT z_TYs z_PH z_KX zxm320.1 zxm320.2.1 zxm320.2.2.1 zxm320.2.2.2.1 zxg360 := z_meth (mm := zxm320) (ce := zxe360) (SG := zxs360) (RO := []) (PHS := z_PS) (MT := z_MT) zxp320 (z_ks13 _ (fun _ h => List.mem_cons_of_mem _ h) _ _ _ _ (fun j r h _ => by cases h)) (fun j h => by cases h) (fun _ _ => zs_KX_p) z_phk (z_fil _ (fun _ h => absurd h List.not_mem_nil)) zxk360
def zxs361 : List (Nat × zSig) := [(138, zxg207)]
def zxe361 : zCe := ((z_KF10, z_KC10, z_KL10, z_KT10, [(4, 0), (16, 0), (29, 0), (42, 0)], [], [], none), [], 4000)
theorem zxk361 : z_chk z_TYs z_PH z_cl z_FT z_MT zxs361 [] z_PS zxm195 zxg361 zxe361 = true := by decide +kernel
theorem zxo361 : z_OK z_TB z_cl z_FT z_TYs z_PH z_KX zxm195.1 zxm195.2.1 zxm195.2.2.1 zxm195.2.2.2.1 zxg361 := z_meth (mm := zxm195) (ce := zxe361) (SG := zxs361) (RO := []) (PHS := z_PS) (MT := z_MT) zxp195 (z_ks10 _ (fun _ h => List.mem_cons_of_mem _ h) _ _ _ _ (fun j r h _ => by cases h)) (fun j h => by cases h) (fun _ _ => zs_KX_p) z_phk (z_fil _ (List.forall_mem_cons.mpr ⟨z_lnk zxt138 zxo207, fun _ h => absurd h List.not_mem_nil⟩)) zxk361
def zxs362 : List (Nat × zSig) := [(15, zxg129), (35, zxg70), (26, zxg47), (195, zxg361)]
def zxe362 : zCe := ((z_KF0, z_KC0, z_KL0, z_KT0, [(4, 0), (17, 1), (38, 2), (63, 3)], [], [], none), [(28, ([(0, 0), (1, 1), (2, 2)], [], 3, [(0, .inr (.inl 112)), (1, .inl (.ofNat 0, .ofNat 6)), (2, .inl (.ofNat 0, .ofNat 6))], [], [], [], [], (0, 0), 0), [(0, 0, 0, 0), (0, 1, 0, 0), (1, 2, 0, 0)], (.ofNat 14, [(2, .negSucc 1)]))], 4000)
theorem zxk362 : z_chk z_TYs z_PH z_cl z_FT z_MT zxs362 [] z_PS zxm194 zxg362 zxe362 = true := by decide +kernel
theorem zxo362 : z_OK z_TB z_cl z_FT z_TYs z_PH z_KX zxm194.1 zxm194.2.1 zxm194.2.2.1 zxm194.2.2.2.1 zxg362 := z_meth (mm := zxm194) (ce := zxe362) (SG := zxs362) (RO := []) (PHS := z_PS) (MT := z_MT) zxp194 (z_ks0 _ (fun _ h => List.mem_cons_of_mem _ h) _ _ _ _ (fun j r h _ => by cases h)) (fun j h => by cases h) (fun _ _ => zs_KX_p) z_phk (z_fil _ (List.forall_mem_cons.mpr ⟨z_lnk zxt15 zxo129, List.forall_mem_cons.mpr ⟨z_lnk zxt35 zxo70, List.forall_mem_cons.mpr ⟨z_lnk zxt26 zxo47, List.forall_mem_cons.mpr ⟨z_lnk zxt195 zxo361, fun _ h => absurd h List.not_mem_nil⟩⟩⟩⟩)) zxk362
def zxs363 : List (Nat × zSig) := []
def zxe363 : zCe := ((z_KF13, z_KC13, z_KL13, z_KT13, [], [], [], none), [], 4000)
theorem zxk363 : z_chk z_TYs z_PH z_cl z_FT z_MT zxs363 [] z_PS zxm200 zxg363 zxe363 = true := by decide +kernel
theorem zxo363 : z_OK z_TB z_cl z_FT z_TYs z_PH z_KX zxm200.1 zxm200.2.1 zxm200.2.2.1 zxm200.2.2.2.1 zxg363 := z_meth (mm := zxm200) (ce := zxe363) (SG := zxs363) (RO := []) (PHS := z_PS) (MT := z_MT) zxp200 (z_ks13 _ (fun _ h => List.mem_cons_of_mem _ h) _ _ _ _ (fun j r h _ => by cases h)) (fun j h => by cases h) (fun _ _ => zs_KX_p) z_phk (z_fil _ (fun _ h => absurd h List.not_mem_nil)) zxk363
def zxs364 : List (Nat × zSig) := []
def zxe364 : zCe := ((z_KF13, z_KC13, z_KL13, z_KT13, [], [], [], none), [(6, ([(0, 0), (1, 1), (2, 2), (3, 3)], [], 4, [(0, .inr (.inl 114)), (1, .inl (.ofNat 0, .ofNat 5)), (2, .inl (.negSucc 2147483647, .ofNat 2147483647)), (3, .inl (.ofNat 0, .ofNat 24))], [], [], [], [], (0, 0), 0), [(0, 0, 0, 0), (0, 1, 0, 0), (1, 2, 0, 0), (1, 3, 0, 0)], (.ofNat 50, [(3, .negSucc 1)]))], 4000)
theorem zxk364 : z_chk z_TYs z_PH z_cl z_FT z_MT zxs364 [] z_PS zxm322 zxg364 zxe364 = true := by decide +kernel
theorem zxo364 : z_OK z_TB z_cl z_FT z_TYs z_PH z_KX zxm322.1 zxm322.2.1 zxm322.2.2.1 zxm322.2.2.2.1 zxg364 := z_meth (mm := zxm322) (ce := zxe364) (SG := zxs364) (RO := []) (PHS := z_PS) (MT := z_MT) zxp322 (z_ks13 _ (fun _ h => List.mem_cons_of_mem _ h) _ _ _ _ (fun j r h _ => by cases h)) (fun j h => by cases h) (fun _ _ => zs_KX_p) z_phk (z_fil _ (fun _ h => absurd h List.not_mem_nil)) zxk364
def zxs365 : List (Nat × zSig) := [(200, zxg363), (322, zxg364), (210, zxg51)]
def zxe365 : zCe := ((z_KF13, z_KC13, z_KL13, z_KT13, [(4, 0), (37, 1), (42, 2)], [], [], none), [(30, ([(0, 0), (1, 1), (2, 2)], [], 3, [(0, .inr (.inl 114)), (1, .inl (.ofNat 0, .ofNat 6)), (2, .inl (.ofNat 0, .ofNat 6))], [], [], [], [], (0, 0), 0), [(0, 0, 0, 0), (0, 1, 0, 0), (1, 2, 0, 0)], (.ofNat 14, [(2, .negSucc 1)]))], 4000)
theorem zxk365 : z_chk z_TYs z_PH z_cl z_FT z_MT zxs365 [] z_PS zxm321 zxg365 zxe365 = true := by decide +kernel
theorem zxo365 : z_OK z_TB z_cl z_FT z_TYs z_PH z_KX zxm321.1 zxm321.2.1 zxm321.2.2.1 zxm321.2.2.2.1 zxg365 := z_meth (mm := zxm321) (ce := zxe365) (SG := zxs365) (RO := []) (PHS := z_PS) (MT := z_MT) zxp321 (z_ks13 _ (fun _ h => List.mem_cons_of_mem _ h) _ _ _ _ (fun j r h _ => by cases h)) (fun j h => by cases h) (fun _ _ => zs_KX_p) z_phk (z_fil _ (List.forall_mem_cons.mpr ⟨z_lnk zxt200 zxo363, List.forall_mem_cons.mpr ⟨z_lnk zxt322 zxo364, List.forall_mem_cons.mpr ⟨z_lnk zxt210 zxo51, fun _ h => absurd h List.not_mem_nil⟩⟩⟩)) zxk365
def zxs366 : List (Nat × zSig) := [(102, zxg130)]
def zxe366 : zCe := ((z_KF7, z_KC7, z_KL7, z_KT7, [(17, 0)], [], [], none), [(4, ([(0, 0), (1, 1), (2, 2)], [], 3, [(0, .inr (.inl 14)), (1, .inl (.negSucc 2147483647, .ofNat 2147483647)), (2, .inl (.ofNat 0, .ofNat 12))], [], [], [], [], (0, 0), 0), [(0, 0, 0, 0), (1, 1, 0, 0), (1, 2, 0, 0)], (.ofNat 26, [(2, .negSucc 1)]))], 4000)
theorem zxk366 : z_chk z_TYs z_PH z_cl z_FT z_MT zxs366 [] z_PS zxm197 zxg366 zxe366 = true := by decide +kernel
theorem zxo366 : z_OK z_TB z_cl z_FT z_TYs z_PH z_KX zxm197.1 zxm197.2.1 zxm197.2.2.1 zxm197.2.2.2.1 zxg366 := z_meth (mm := zxm197) (ce := zxe366) (SG := zxs366) (RO := []) (PHS := z_PS) (MT := z_MT) zxp197 (z_ks7 _ (fun _ h => List.mem_cons_of_mem _ h) _ _ _ _ (fun j r h _ => by cases h)) (fun j h => by cases h) (fun _ _ => zs_KX_p) z_phk (z_fil _ (List.forall_mem_cons.mpr ⟨z_lnk zxt102 zxo130, fun _ h => absurd h List.not_mem_nil⟩)) zxk366
def zxs367 : List (Nat × zSig) := []
def zxe367 : zCe := ((z_KF0, z_KC0, z_KL0, z_KT0, [], [], [], none), [], 4000)
theorem zxk367 : z_chk z_TYs z_PH z_cl z_FT z_MT zxs367 [] z_PS zxm15 zxg367 zxe367 = true := by decide +kernel
theorem zxo367 : z_OK z_TB z_cl z_FT z_TYs z_PH z_KX zxm15.1 zxm15.2.1 zxm15.2.2.1 zxm15.2.2.2.1 zxg367 := z_meth (mm := zxm15) (ce := zxe367) (SG := zxs367) (RO := []) (PHS := z_PS) (MT := z_MT) zxp15 (z_ks0 _ (fun _ h => List.mem_cons_of_mem _ h) _ _ _ _ (fun j r h _ => by cases h)) (fun j h => by cases h) (fun _ _ => zs_KX_p) z_phk (z_fil _ (fun _ h => absurd h List.not_mem_nil)) zxk367
def zxs368 : List (Nat × zSig) := [(102, zxg130), (197, zxg366), (15, zxg367), (26, zxg47)]
def zxe368 : zCe := ((z_KF0, z_KC0, z_KL0, z_KT0, [(91, 0), (158, 1), (167, 2), (181, 3)], [], [], none), [], 4000)
theorem zxk368 : z_chk z_TYs z_PH z_cl z_FT z_MT zxs368 [] z_PS zxm196 zxg368 zxe368 = true := by decide +kernel
theorem zxo368 : z_OK z_TB z_cl z_FT z_TYs z_PH z_KX zxm196.1 zxm196.2.1 zxm196.2.2.1 zxm196.2.2.2.1 zxg368 := z_meth (mm := zxm196) (ce := zxe368) (SG := zxs368) (RO := []) (PHS := z_PS) (MT := z_MT) zxp196 (z_ks0 _ (fun _ h => List.mem_cons_of_mem _ h) _ _ _ _ (fun j r h _ => by cases h)) (fun j h => by cases h) (fun _ _ => zs_KX_p) z_phk (z_fil _ (List.forall_mem_cons.mpr ⟨z_lnk zxt102 zxo130, List.forall_mem_cons.mpr ⟨z_lnk zxt197 zxo366, List.forall_mem_cons.mpr ⟨z_lnk zxt15 zxo367, List.forall_mem_cons.mpr ⟨z_lnk zxt26 zxo47, fun _ h => absurd h List.not_mem_nil⟩⟩⟩⟩)) zxk368
def zxs369 : List (Nat × zSig) := []
def zxe369 : zCe := ((z_KF13, z_KC13, z_KL13, z_KT13, [], [], [], none), [(4, ([(0, 0), (1, 1), (2, 2)], [], 3, [(0, .inr (.inl 114)), (1, .inl (.negSucc 2147483647, .ofNat 2147483647)), (2, .inl (.ofNat 0, .ofNat 288))], [], [], [], [], (0, 0), 0), [(0, 0, 0, 0), (1, 1, 0, 0), (1, 2, 0, 0)], (.ofNat 578, [(2, .negSucc 1)]))], 4000)
theorem zxk369 : z_chk z_TYs z_PH z_cl z_FT z_MT zxs369 [] z_PS zxm324 zxg369 zxe369 = true := by decide +kernel
theorem zxo369 : z_OK z_TB z_cl z_FT z_TYs z_PH z_KX zxm324.1 zxm324.2.1 zxm324.2.2.1 zxm324.2.2.2.1 zxg369 := z_meth (mm := zxm324) (ce := zxe369) (SG := zxs369) (RO := []) (PHS := z_PS) (MT := z_MT) zxp324 (z_ks13 _ (fun _ h => List.mem_cons_of_mem _ h) _ _ _ _ (fun j r h _ => by cases h)) (fun j h => by cases h) (fun _ _ => zs_KX_p) z_phk (z_fil _ (fun _ h => absurd h List.not_mem_nil)) zxk369
def zxs370 : List (Nat × zSig) := []
def zxe370 : zCe := ((z_KF13, z_KC13, z_KL13, z_KT13, [], [], [], none), [], 4000)
theorem zxk370 : z_chk z_TYs z_PH z_cl z_FT z_MT zxs370 [] z_PS zxm200 zxg370 zxe370 = true := by decide +kernel
theorem zxo370 : z_OK z_TB z_cl z_FT z_TYs z_PH z_KX zxm200.1 zxm200.2.1 zxm200.2.2.1 zxm200.2.2.2.1 zxg370 := z_meth (mm := zxm200) (ce := zxe370) (SG := zxs370) (RO := []) (PHS := z_PS) (MT := z_MT) zxp200 (z_ks13 _ (fun _ h => List.mem_cons_of_mem _ h) _ _ _ _ (fun j r h _ => by cases h)) (fun j h => by cases h) (fun _ _ => zs_KX_p) z_phk (z_fil _ (fun _ h => absurd h List.not_mem_nil)) zxk370
def zxs371 : List (Nat × zSig) := [(324, zxg369), (200, zxg370), (210, zxg51)]
def zxe371 : zCe := ((z_KF13, z_KC13, z_KL13, z_KT13, [(149, 0), (158, 1), (169, 2)], [], [], none), [], 4000)
theorem zxk371 : z_chk z_TYs z_PH z_cl z_FT z_MT zxs371 [] z_PS zxm323 zxg371 zxe371 = true := by decide +kernel
theorem zxo371 : z_OK z_TB z_cl z_FT z_TYs z_PH z_KX zxm323.1 zxm323.2.1 zxm323.2.2.1 zxm323.2.2.2.1 zxg371 := z_meth (mm := zxm323) (ce := zxe371) (SG := zxs371) (RO := []) (PHS := z_PS) (MT := z_MT) zxp323 (z_ks13 _ (fun _ h => List.mem_cons_of_mem _ h) _ _ _ _ (fun j r h _ => by cases h)) (fun j h => by cases h) (fun _ _ => zs_KX_p) z_phk (z_fil _ (List.forall_mem_cons.mpr ⟨z_lnk zxt324 zxo369, List.forall_mem_cons.mpr ⟨z_lnk zxt200 zxo370, List.forall_mem_cons.mpr ⟨z_lnk zxt210 zxo51, fun _ h => absurd h List.not_mem_nil⟩⟩⟩)) zxk371
def zxs372 : List (Nat × zSig) := [(15, zxg19), (16, zxg20), (15, zxg21)]
def zxe372 : zCe := ((z_KF0, z_KC0, z_KL0, z_KT0, [(4, 0), (12, 1), (23, 2)], [], [], none), [], 4000)
theorem zxk372 : z_chk z_TYs z_PH z_cl z_FT z_MT zxs372 [] z_PS zxm14 zxg372 zxe372 = true := by decide +kernel
theorem zxo372 : z_OK z_TB z_cl z_FT z_TYs z_PH z_KX zxm14.1 zxm14.2.1 zxm14.2.2.1 zxm14.2.2.2.1 zxg372 := z_meth (mm := zxm14) (ce := zxe372) (SG := zxs372) (RO := []) (PHS := z_PS) (MT := z_MT) zxp14 (z_ks0 _ (fun _ h => List.mem_cons_of_mem _ h) _ _ _ _ (fun j r h _ => by cases h)) (fun j h => by cases h) (fun _ _ => zs_KX_p) z_phk (z_fil _ (List.forall_mem_cons.mpr ⟨z_lnk zxt15 zxo19, List.forall_mem_cons.mpr ⟨z_lnk zxt16 zxo20, List.forall_mem_cons.mpr ⟨z_lnk zxt15 zxo21, fun _ h => absurd h List.not_mem_nil⟩⟩⟩)) zxk372
def zxs373 : List (Nat × zSig) := [(200, zxg23), (201, zxg24), (200, zxg25)]
def zxe373 : zCe := ((z_KF13, z_KC13, z_KL13, z_KT13, [(4, 0), (12, 1), (23, 2)], [], [], none), [], 4000)
theorem zxk373 : z_chk z_TYs z_PH z_cl z_FT z_MT zxs373 [] z_PS zxm199 zxg373 zxe373 = true := by decide +kernel
theorem zxo373 : z_OK z_TB z_cl z_FT z_TYs z_PH z_KX zxm199.1 zxm199.2.1 zxm199.2.2.1 zxm199.2.2.2.1 zxg373 := z_meth (mm := zxm199) (ce := zxe373) (SG := zxs373) (RO := []) (PHS := z_PS) (MT := z_MT) zxp199 (z_ks13 _ (fun _ h => List.mem_cons_of_mem _ h) _ _ _ _ (fun j r h _ => by cases h)) (fun j h => by cases h) (fun _ _ => zs_KX_p) z_phk (z_fil _ (List.forall_mem_cons.mpr ⟨z_lnk zxt200 zxo23, List.forall_mem_cons.mpr ⟨z_lnk zxt201 zxo24, List.forall_mem_cons.mpr ⟨z_lnk zxt200 zxo25, fun _ h => absurd h List.not_mem_nil⟩⟩⟩)) zxk373
def zxs374 : List (Nat × zSig) := [(18, zxg27), (15, zxg28)]
def zxe374 : zCe := ((z_KF0, z_KC0, z_KL0, z_KT0, [(5, 0), (15, 1), (25, 1)], [], [], none), [], 4000)
theorem zxk374 : z_chk z_TYs z_PH z_cl z_FT z_MT zxs374 [] z_PS zxm17 zxg374 zxe374 = true := by decide +kernel
theorem zxo374 : z_OK z_TB z_cl z_FT z_TYs z_PH z_KX zxm17.1 zxm17.2.1 zxm17.2.2.1 zxm17.2.2.2.1 zxg374 := z_meth (mm := zxm17) (ce := zxe374) (SG := zxs374) (RO := []) (PHS := z_PS) (MT := z_MT) zxp17 (z_ks0 _ (fun _ h => List.mem_cons_of_mem _ h) _ _ _ _ (fun j r h _ => by cases h)) (fun j h => by cases h) (fun _ _ => zs_KX_p) z_phk (z_fil _ (List.forall_mem_cons.mpr ⟨z_lnk zxt18 zxo27, List.forall_mem_cons.mpr ⟨z_lnk zxt15 zxo28, fun _ h => absurd h List.not_mem_nil⟩⟩)) zxk374
def zxs375 : List (Nat × zSig) := [(204, zxg30)]
def zxe375 : zCe := ((z_KF13, z_KC13, z_KL13, z_KT13, [(18, 0)], [], [], none), [], 4000)
theorem zxk375 : z_chk z_TYs z_PH z_cl z_FT z_MT zxs375 [] z_PS zxm203 zxg375 zxe375 = true := by decide +kernel
theorem zxo375 : z_OK z_TB z_cl z_FT z_TYs z_PH z_KX zxm203.1 zxm203.2.1 zxm203.2.2.1 zxm203.2.2.2.1 zxg375 := z_meth (mm := zxm203) (ce := zxe375) (SG := zxs375) (RO := []) (PHS := z_PS) (MT := z_MT) zxp203 (z_ks13 _ (fun _ h => List.mem_cons_of_mem _ h) _ _ _ _ (fun j r h _ => by cases h)) (fun j h => by cases h) (fun _ _ => zs_KX_p) z_phk (z_fil _ (List.forall_mem_cons.mpr ⟨z_lnk zxt204 zxo30, fun _ h => absurd h List.not_mem_nil⟩)) zxk375
def zxs376 : List (Nat × zSig) := [(203, zxg375), (200, zxg32)]
def zxe376 : zCe := ((z_KF13, z_KC13, z_KL13, z_KT13, [(2, 0), (12, 1), (22, 1)], [], [], none), [], 4000)
theorem zxk376 : z_chk z_TYs z_PH z_cl z_FT z_MT zxs376 [] z_PS zxm202 zxg376 zxe376 = true := by decide +kernel
theorem zxo376 : z_OK z_TB z_cl z_FT z_TYs z_PH z_KX zxm202.1 zxm202.2.1 zxm202.2.2.1 zxm202.2.2.2.1 zxg376 := z_meth (mm := zxm202) (ce := zxe376) (SG := zxs376) (RO := []) (PHS := z_PS) (MT := z_MT) zxp202 (z_ks13 _ (fun _ h => List.mem_cons_of_mem _ h) _ _ _ _ (fun j r h _ => by cases h)) (fun j h => by cases h) (fun _ _ => zs_KX_p) z_phk (z_fil _ (List.forall_mem_cons.mpr ⟨z_lnk zxt203 zxo375, List.forall_mem_cons.mpr ⟨z_lnk zxt200 zxo32, fun _ h => absurd h List.not_mem_nil⟩⟩)) zxk376
def zxs377 : List (Nat × zSig) := [(18, zxg27)]
def zxe377 : zCe := ((z_KF0, z_KC0, z_KL0, z_KT0, [(5, 0)], [], [], none), [], 4000)
theorem zxk377 : z_chk z_TYs z_PH z_cl z_FT z_MT zxs377 [] z_PS zxm19 zxg377 zxe377 = true := by decide +kernel
theorem zxo377 : z_OK z_TB z_cl z_FT z_TYs z_PH z_KX zxm19.1 zxm19.2.1 zxm19.2.2.1 zxm19.2.2.2.1 zxg377 := z_meth (mm := zxm19) (ce := zxe377) (SG := zxs377) (RO := []) (PHS := z_PS) (MT := z_MT) zxp19 (z_ks0 _ (fun _ h => List.mem_cons_of_mem _ h) _ _ _ _ (fun j r h _ => by cases h)) (fun j h => by cases h) (fun _ _ => zs_KX_p) z_phk (z_fil _ (List.forall_mem_cons.mpr ⟨z_lnk zxt18 zxo27, fun _ h => absurd h List.not_mem_nil⟩)) zxk377
def zxs378 : List (Nat × zSig) := [(203, zxg375)]
def zxe378 : zCe := ((z_KF13, z_KC13, z_KL13, z_KT13, [(2, 0)], [], [], none), [], 4000)
theorem zxk378 : z_chk z_TYs z_PH z_cl z_FT z_MT zxs378 [] z_PS zxm205 zxg378 zxe378 = true := by decide +kernel
theorem zxo378 : z_OK z_TB z_cl z_FT z_TYs z_PH z_KX zxm205.1 zxm205.2.1 zxm205.2.2.1 zxm205.2.2.2.1 zxg378 := z_meth (mm := zxm205) (ce := zxe378) (SG := zxs378) (RO := []) (PHS := z_PS) (MT := z_MT) zxp205 (z_ks13 _ (fun _ h => List.mem_cons_of_mem _ h) _ _ _ _ (fun j r h _ => by cases h)) (fun j h => by cases h) (fun _ _ => zs_KX_p) z_phk (z_fil _ (List.forall_mem_cons.mpr ⟨z_lnk zxt203 zxo375, fun _ h => absurd h List.not_mem_nil⟩)) zxk378
