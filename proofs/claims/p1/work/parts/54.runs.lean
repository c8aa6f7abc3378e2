/-! Certificates. -/
def zxs379 : List (Nat × zSig) := []
def zxe379 : zCe := ((z_KF0, z_KC0, z_KL0, z_KT0, [], [], [], none), [], 4000)
theorem zxk379 : z_chk z_TYs z_PH z_cl z_FT z_MT zxs379 [] z_PS zxm13 zxg379 zxe379 = true := by decide +kernel
theorem zxo379 : z_OK z_TB z_cl z_FT z_TYs z_PH z_KX zxm13.1 zxm13.2.1 zxm13.2.2.1 zxm13.2.2.2.1 zxg379 := z_meth (mm := zxm13) (ce := zxe379) (SG := zxs379) (RO := []) (PHS := z_PS) (MT := z_MT) zxp13 (z_ks0 _ (fun _ h => List.mem_cons_of_mem _ h) _ _ _ _ (fun j r h _ => by cases h)) (fun j h => by cases h) (fun _ _ => zs_K_p) z_phk (z_fil _ (fun _ h => absurd h List.not_mem_nil)) zxk379
def zxs380 : List (Nat × zSig) := [(13, zxg379)]
def zxe380 : zCe := ((z_KF0, z_KC0, z_KL0, z_KT0, [(5, 0)], [], [(12, 1, 1, .ofNat 0), (18, 1, 1, .ofNat 0)], none), [], 4000)
theorem zxk380 : z_chk z_TYs z_PH z_cl z_FT z_MT zxs380 [] z_PS zxm94 zxg380 zxe380 = true := by decide +kernel
theorem zxo380 : z_OK z_TB z_cl z_FT z_TYs z_PH z_KX zxm94.1 zxm94.2.1 zxm94.2.2.1 zxm94.2.2.2.1 zxg380 := z_meth (mm := zxm94) (ce := zxe380) (SG := zxs380) (RO := []) (PHS := z_PS) (MT := z_MT) zxp94 (z_ks0 _ (fun _ h => List.mem_cons_of_mem _ h) _ _ _ _ (fun j r h _ => by cases h)) (fun j h => by cases h) (fun _ _ => zs_K_p) z_phk (z_fil _ (List.forall_mem_cons.mpr ⟨z_lnk zxt13 zxo379, fun _ h => absurd h List.not_mem_nil⟩)) zxk380
def zxs381 : List (Nat × zSig) := []
def zxe381 : zCe := ((z_KF13, z_KC13, z_KL13, z_KT13, [], [], [], none), [], 4000)
theorem zxk381 : z_chk z_TYs z_PH z_cl z_FT z_MT zxs381 [] z_PS zxm103 zxg381 zxe381 = true := by decide +kernel
theorem zxo381 : z_OK z_TB z_cl z_FT z_TYs z_PH z_KX zxm103.1 zxm103.2.1 zxm103.2.2.1 zxm103.2.2.2.1 zxg381 := z_meth (mm := zxm103) (ce := zxe381) (SG := zxs381) (RO := []) (PHS := z_PS) (MT := z_MT) zxp103 (z_ks13 _ (fun _ h => List.mem_cons_of_mem _ h) _ _ _ _ (fun j r h _ => by cases h)) (fun j h => by cases h) (fun _ _ => zs_K_p) z_phk (z_fil _ (fun _ h => absurd h List.not_mem_nil)) zxk381
def zxs382 : List (Nat × zSig) := [(103, zxg381)]
def zxe382 : zCe := ((z_KF13, z_KC13, z_KL13, z_KT13, [(5, 0)], [], [], none), [], 4000)
theorem zxk382 : z_chk z_TYs z_PH z_cl z_FT z_MT zxs382 [] z_PS zxm162 zxg382 zxe382 = true := by decide +kernel
theorem zxo382 : z_OK z_TB z_cl z_FT z_TYs z_PH z_KX zxm162.1 zxm162.2.1 zxm162.2.2.1 zxm162.2.2.2.1 zxg382 := z_meth (mm := zxm162) (ce := zxe382) (SG := zxs382) (RO := []) (PHS := z_PS) (MT := z_MT) zxp162 (z_ks13 _ (fun _ h => List.mem_cons_of_mem _ h) _ _ _ _ (fun j r h _ => by cases h)) (fun j h => by cases h) (fun _ _ => zs_K_p) z_phk (z_fil _ (List.forall_mem_cons.mpr ⟨z_lnk zxt103 zxo381, fun _ h => absurd h List.not_mem_nil⟩)) zxk382
def zxs383 : List (Nat × zSig) := []
def zxe383 : zCe := ((z_KF13, z_KC13, z_KL13, z_KT13, [], [], [], none), [], 4000)
theorem zxk383 : z_chk z_TYs z_PH z_cl z_FT z_MT zxs383 [] z_PS zxm103 zxg383 zxe383 = true := by decide +kernel
theorem zxo383 : z_OK z_TB z_cl z_FT z_TYs z_PH z_KX zxm103.1 zxm103.2.1 zxm103.2.2.1 zxm103.2.2.2.1 zxg383 := z_meth (mm := zxm103) (ce := zxe383) (SG := zxs383) (RO := []) (PHS := z_PS) (MT := z_MT) zxp103 (z_ks13 _ (fun _ h => List.mem_cons_of_mem _ h) _ _ _ _ (fun j r h _ => by cases h)) (fun j h => by cases h) (fun _ _ => zs_K_p) z_phk (z_fil _ (fun _ h => absurd h List.not_mem_nil)) zxk383
def zxs384 : List (Nat × zSig) := [(103, zxg383)]
def zxe384 : zCe := ((z_KF13, z_KC13, z_KL13, z_KT13, [(5, 0)], [], [], none), [], 4000)
theorem zxk384 : z_chk z_TYs z_PH z_cl z_FT z_MT zxs384 [] z_PS zxm162 zxg384 zxe384 = true := by decide +kernel
theorem zxo384 : z_OK z_TB z_cl z_FT z_TYs z_PH z_KX zxm162.1 zxm162.2.1 zxm162.2.2.1 zxm162.2.2.2.1 zxg384 := z_meth (mm := zxm162) (ce := zxe384) (SG := zxs384) (RO := []) (PHS := z_PS) (MT := z_MT) zxp162 (z_ks13 _ (fun _ h => List.mem_cons_of_mem _ h) _ _ _ _ (fun j r h _ => by cases h)) (fun j h => by cases h) (fun _ _ => zs_K_p) z_phk (z_fil _ (List.forall_mem_cons.mpr ⟨z_lnk zxt103 zxo383, fun _ h => absurd h List.not_mem_nil⟩)) zxk384
def zxs385 : List (Nat × zSig) := []
def zxe385 : zCe := ((z_KF13, z_KC13, z_KL13, z_KT13, [], [], [], none), [], 4000)
theorem zxk385 : z_chk z_TYs z_PH z_cl z_FT z_MT zxs385 [] z_PS zxm103 zxg385 zxe385 = true := by decide +kernel
theorem zxo385 : z_OK z_TB z_cl z_FT z_TYs z_PH z_KX zxm103.1 zxm103.2.1 zxm103.2.2.1 zxm103.2.2.2.1 zxg385 := z_meth (mm := zxm103) (ce := zxe385) (SG := zxs385) (RO := []) (PHS := z_PS) (MT := z_MT) zxp103 (z_ks13 _ (fun _ h => List.mem_cons_of_mem _ h) _ _ _ _ (fun j r h _ => by cases h)) (fun j h => by cases h) (fun _ _ => zs_K_p) z_phk (z_fil _ (fun _ h => absurd h List.not_mem_nil)) zxk385
def zxs386 : List (Nat × zSig) := [(103, zxg385)]
def zxe386 : zCe := ((z_KF13, z_KC13, z_KL13, z_KT13, [(5, 0)], [], [(21, 1, 2, .ofNat 0)], none), [], 4000)
theorem zxk386 : z_chk z_TYs z_PH z_cl z_FT z_MT zxs386 [] z_PS zxm162 zxg386 zxe386 = true := by decide +kernel
theorem zxo386 : z_OK z_TB z_cl z_FT z_TYs z_PH z_KX zxm162.1 zxm162.2.1 zxm162.2.2.1 zxm162.2.2.2.1 zxg386 := z_meth (mm := zxm162) (ce := zxe386) (SG := zxs386) (RO := []) (PHS := z_PS) (MT := z_MT) zxp162 (z_ks13 _ (fun _ h => List.mem_cons_of_mem _ h) _ _ _ _ (fun j r h _ => by cases h)) (fun j h => by cases h) (fun _ _ => zs_K_p) z_phk (z_fil _ (List.forall_mem_cons.mpr ⟨z_lnk zxt103 zxo385, fun _ h => absurd h List.not_mem_nil⟩)) zxk386
def zxs387 : List (Nat × zSig) := []
def zxe387 : zCe := ((z_KF8, z_KC8, z_KL8, z_KT8, [], [], [], none), [], 4000)
theorem zxk387 : z_chk z_TYs z_PH z_cl z_FT z_MT zxs387 [] z_PS zxm61 zxg387 zxe387 = true := by decide +kernel
theorem zxo387 : z_OK z_TB z_cl z_FT z_TYs z_PH z_KX zxm61.1 zxm61.2.1 zxm61.2.2.1 zxm61.2.2.2.1 zxg387 := z_meth (mm := zxm61) (ce := zxe387) (SG := zxs387) (RO := []) (PHS := z_PS) (MT := z_MT) zxp61 (z_ks8 _ (fun _ h => List.mem_cons_of_mem _ h) _ _ _ _ (fun j r h _ => by cases h)) (fun j h => by cases h) (fun _ _ => zs_K_p) z_phk (z_fil _ (fun _ h => absurd h List.not_mem_nil)) zxk387
def zxs388 : List (Nat × zSig) := []
def zxe388 : zCe := ((z_KF7, z_KC7, z_KL7, z_KT7, [], [], [], none), [], 4000)
theorem zxk388 : z_chk z_TYs z_PH z_cl z_FT z_MT zxs388 [] z_PS zxm96 zxg388 zxe388 = true := by decide +kernel
theorem zxo388 : z_OK z_TB z_cl z_FT z_TYs z_PH z_KX zxm96.1 zxm96.2.1 zxm96.2.2.1 zxm96.2.2.2.1 zxg388 := z_meth (mm := zxm96) (ce := zxe388) (SG := zxs388) (RO := []) (PHS := z_PS) (MT := z_MT) zxp96 (z_ks7 _ (fun _ h => List.mem_cons_of_mem _ h) _ _ _ _ (fun j r h _ => by cases h)) (fun j h => by cases h) (fun _ _ => zs_K_p) z_phk (z_fil _ (fun _ h => absurd h List.not_mem_nil)) zxk388
def zxs389 : List (Nat × zSig) := [(61, zxg387), (96, zxg388), (51, zxg149)]
def zxe389 : zCe := ((z_KF0, z_KC0, z_KL0, z_KT0, [(8, 0), (19, 1), (34, 2)], [], [(24, 1, 3, .ofNat 0)], none), [], 4000)
theorem zxk389 : z_chk z_TYs z_PH z_cl z_FT z_MT zxs389 [] z_PS zxm95 zxg389 zxe389 = true := by decide +kernel
theorem zxo389 : z_OK z_TB z_cl z_FT z_TYs z_PH z_KX zxm95.1 zxm95.2.1 zxm95.2.2.1 zxm95.2.2.2.1 zxg389 := z_meth (mm := zxm95) (ce := zxe389) (SG := zxs389) (RO := []) (PHS := z_PS) (MT := z_MT) zxp95 (z_ks0 _ (fun _ h => List.mem_cons_of_mem _ h) _ _ _ _ (fun j r h _ => by cases h)) (fun j h => by cases h) (fun _ _ => zs_K_p) z_phk (z_fil _ (List.forall_mem_cons.mpr ⟨z_lnk zxt61 zxo387, List.forall_mem_cons.mpr ⟨z_lnk zxt96 zxo388, List.forall_mem_cons.mpr ⟨z_lnk zxt51 zxo149, fun _ h => absurd h List.not_mem_nil⟩⟩⟩)) zxk389
def zxs390 : List (Nat × zSig) := []
def zxe390 : zCe := ((z_KF13, z_KC13, z_KL13, z_KT13, [], [], [(9, 2, 2, .ofNat 23), (9, 2, 2, .ofNat 47), (9, 2, 2, .ofNat 71), (9, 2, 2, .ofNat 95), (9, 2, 2, .ofNat 119), (9, 2, 2, .ofNat 125), (9, 2, 2, .ofNat 126), (9, 2, 2, .ofNat 127), (9, 2, 2, .ofNat 128), (9, 2, 2, .ofNat 129), (9, 2, 2, .ofNat 130), (9, 2, 2, .ofNat 131), (9, 2, 2, .ofNat 132), (9, 2, 2, .ofNat 133)], none), [(2, ([(0, 0), (1, 1), (2, 2)], [], 3, [(0, .inr (.inl 211)), (1, .inr (.inl 213)), (2, .inl (.ofNat 0, .ofNat 422))], [], [], [], [], (0, 0), 0), [(0, 0, 0, 0), (0, 1, 0, 0), (1, 2, 0, 0)], (.ofNat 846, [(2, .negSucc 1)]))], 4000)
theorem zxk390 : z_chk z_TYs z_PH z_cl z_FT z_MT zxs390 [] z_PS zxm151 zxg390 zxe390 = true := by decide +kernel
theorem zxo390 : z_OK z_TB z_cl z_FT z_TYs z_PH z_KX zxm151.1 zxm151.2.1 zxm151.2.2.1 zxm151.2.2.2.1 zxg390 := z_meth (mm := zxm151) (ce := zxe390) (SG := zxs390) (RO := []) (PHS := z_PS) (MT := z_MT) zxp151 (z_ks13 _ (fun _ h => List.mem_cons_of_mem _ h) _ _ _ _ (fun j r h _ => by cases h)) (fun j h => by cases h) (fun _ _ => zs_K_p) z_phk (z_fil _ (fun _ h => absurd h List.not_mem_nil)) zxk390
def zxs391 : List (Nat × zSig) := [(151, zxg390), (129, zxg167)]
def zxe391 : zCe := ((z_KF13, z_KC13, z_KL13, z_KT13, [(13, 0), (23, 1)], [], [(2, 1, 6, .ofNat 0)], none), [], 4000)
theorem zxk391 : z_chk z_TYs z_PH z_cl z_FT z_MT zxs391 [] z_PS zxm163 zxg391 zxe391 = true := by decide +kernel
theorem zxo391 : z_OK z_TB z_cl z_FT z_TYs z_PH z_KX zxm163.1 zxm163.2.1 zxm163.2.2.1 zxm163.2.2.2.1 zxg391 := z_meth (mm := zxm163) (ce := zxe391) (SG := zxs391) (RO := []) (PHS := z_PS) (MT := z_MT) zxp163 (z_ks13 _ (fun _ h => List.mem_cons_of_mem _ h) _ _ _ _ (fun j r h _ => by cases h)) (fun j h => by cases h) (fun _ _ => zs_K_p) z_phk (z_fil _ (List.forall_mem_cons.mpr ⟨z_lnk zxt151 zxo390, List.forall_mem_cons.mpr ⟨z_lnk zxt129 zxo167, fun _ h => absurd h List.not_mem_nil⟩⟩)) zxk391
def zxs392 : List (Nat × zSig) := []
def zxe392 : zCe := ((z_KF0, z_KC0, z_KL0, z_KT0, [], [], [], none), [], 4000)
theorem zxk392 : z_chk z_TYs z_PH z_cl z_FT z_MT zxs392 [] z_PS zxm97 zxg392 zxe392 = true := by decide +kernel
theorem zxo392 : z_OK z_TB z_cl z_FT z_TYs z_PH z_KX zxm97.1 zxm97.2.1 zxm97.2.2.1 zxm97.2.2.2.1 zxg392 := z_meth (mm := zxm97) (ce := zxe392) (SG := zxs392) (RO := []) (PHS := z_PS) (MT := z_MT) zxp97 (z_ks0 _ (fun _ h => List.mem_cons_of_mem _ h) _ _ _ _ (fun j r h _ => by cases h)) (fun j h => by cases h) (fun _ _ => zs_K_p) z_phk (z_fil _ (fun _ h => absurd h List.not_mem_nil)) zxk392
def zxs393 : List (Nat × zSig) := []
def zxe393 : zCe := ((z_KF13, z_KC13, z_KL13, z_KT13, [], [], [], none), [], 4000)
theorem zxk393 : z_chk z_TYs z_PH z_cl z_FT z_MT zxs393 [] z_PS zxm164 zxg393 zxe393 = true := by decide +kernel
theorem zxo393 : z_OK z_TB z_cl z_FT z_TYs z_PH z_KX zxm164.1 zxm164.2.1 zxm164.2.2.1 zxm164.2.2.2.1 zxg393 := z_meth (mm := zxm164) (ce := zxe393) (SG := zxs393) (RO := []) (PHS := z_PS) (MT := z_MT) zxp164 (z_ks13 _ (fun _ h => List.mem_cons_of_mem _ h) _ _ _ _ (fun j r h _ => by cases h)) (fun j h => by cases h) (fun _ _ => zs_K_p) z_phk (z_fil _ (fun _ h => absurd h List.not_mem_nil)) zxk393
def zxs394 : List (Nat × zSig) := []
def zxe394 : zCe := ((z_KF0, z_KC0, z_KL0, z_KT0, [], [], [], none), [], 4000)
theorem zxk394 : z_chk z_TYs z_PH z_cl z_FT z_MT zxs394 [] z_PS zxm13 zxg394 zxe394 = true := by decide +kernel
theorem zxo394 : z_OK z_TB z_cl z_FT z_TYs z_PH z_KX zxm13.1 zxm13.2.1 zxm13.2.2.1 zxm13.2.2.2.1 zxg394 := z_meth (mm := zxm13) (ce := zxe394) (SG := zxs394) (RO := []) (PHS := z_PS) (MT := z_MT) zxp13 (z_ks0 _ (fun _ h => List.mem_cons_of_mem _ h) _ _ _ _ (fun j r h _ => by cases h)) (fun j h => by cases h) (fun _ _ => zs_K_p) z_phk (z_fil _ (fun _ h => absurd h List.not_mem_nil)) zxk394
def zxs395 : List (Nat × zSig) := []
def zxe395 : zCe := ((z_KF0, z_KC0, z_KL0, z_KT0, [], [], [], none), [], 4000)
theorem zxk395 : z_chk z_TYs z_PH z_cl z_FT z_MT zxs395 [] z_PS zxm13 zxg395 zxe395 = true := by decide +kernel
theorem zxo395 : z_OK z_TB z_cl z_FT z_TYs z_PH z_KX zxm13.1 zxm13.2.1 zxm13.2.2.1 zxm13.2.2.2.1 zxg395 := z_meth (mm := zxm13) (ce := zxe395) (SG := zxs395) (RO := []) (PHS := z_PS) (MT := z_MT) zxp13 (z_ks0 _ (fun _ h => List.mem_cons_of_mem _ h) _ _ _ _ (fun j r h _ => by cases h)) (fun j h => by cases h) (fun _ _ => zs_K_p) z_phk (z_fil _ (fun _ h => absurd h List.not_mem_nil)) zxk395
def zxs396 : List (Nat × zSig) := []
def zxe396 : zCe := ((z_KF10, z_KC10, z_KL10, z_KT10, [], [], [], none), [], 4000)
theorem zxk396 : z_chk z_TYs z_PH z_cl z_FT z_MT zxs396 [] z_PS zxm33 zxg396 zxe396 = true := by decide +kernel
theorem zxo396 : z_OK z_TB z_cl z_FT z_TYs z_PH z_KX zxm33.1 zxm33.2.1 zxm33.2.2.1 zxm33.2.2.2.1 zxg396 := z_meth (mm := zxm33) (ce := zxe396) (SG := zxs396) (RO := []) (PHS := z_PS) (MT := z_MT) zxp33 (z_ks10 _ (fun _ h => List.mem_cons_of_mem _ h) _ _ _ _ (fun j r h _ => by cases h)) (fun j h => by cases h) (fun _ _ => zs_K_p) z_phk (z_fil _ (fun _ h => absurd h List.not_mem_nil)) zxk396
def zxs397 : List (Nat × zSig) := []
def zxe397 : zCe := ((z_KF10, z_KC10, z_KL10, z_KT10, [], [], [], none), [], 4000)
theorem zxk397 : z_chk z_TYs z_PH z_cl z_FT z_MT zxs397 [] z_PS zxm33 zxg397 zxe397 = true := by decide +kernel
theorem zxo397 : z_OK z_TB z_cl z_FT z_TYs z_PH z_KX zxm33.1 zxm33.2.1 zxm33.2.2.1 zxm33.2.2.2.1 zxg397 := z_meth (mm := zxm33) (ce := zxe397) (SG := zxs397) (RO := []) (PHS := z_PS) (MT := z_MT) zxp33 (z_ks10 _ (fun _ h => List.mem_cons_of_mem _ h) _ _ _ _ (fun j r h _ => by cases h)) (fun j h => by cases h) (fun _ _ => zs_K_p) z_phk (z_fil _ (fun _ h => absurd h List.not_mem_nil)) zxk397
def zxs398 : List (Nat × zSig) := [(13, zxg394), (13, zxg395), (33, zxg396), (33, zxg397)]
def zxe398 : zCe := ((z_KF0, z_KC0, z_KL0, z_KT0, [(4, 0), (4, 1), (17, 3), (17, 2)], [], [(0, 2, 1, .ofNat 0)], none), [(28, ([(0, 0), (1, 1), (2, 2)], [], 3, [(0, .inr (.inl 86)), (1, .inl (.ofNat 0, .ofNat 0)), (2, .inl (.ofNat 0, .ofNat 0))], [], [], [], [], (0, 0), 0), [(0, 0, 0, 0), (0, 1, 0, 0), (1, 2, 0, 0)], (.ofNat 2, [(2, .negSucc 1)]))], 4000)
theorem zxk398 : z_chk z_TYs z_PH z_cl z_FT z_MT zxs398 [] z_PS zxm98 zxg398 zxe398 = true := by decide +kernel
theorem zxo398 : z_OK z_TB z_cl z_FT z_TYs z_PH z_KX zxm98.1 zxm98.2.1 zxm98.2.2.1 zxm98.2.2.2.1 zxg398 := z_meth (mm := zxm98) (ce := zxe398) (SG := zxs398) (RO := []) (PHS := z_PS) (MT := z_MT) zxp98 (z_ks0 _ (fun _ h => List.mem_cons_of_mem _ h) _ _ _ _ (fun j r h _ => by cases h)) (fun j h => by cases h) (fun _ _ => zs_K_p) z_phk (z_fil _ (List.forall_mem_cons.mpr ⟨z_lnk zxt13 zxo394, List.forall_mem_cons.mpr ⟨z_lnk zxt13 zxo395, List.forall_mem_cons.mpr ⟨z_lnk zxt33 zxo396, List.forall_mem_cons.mpr ⟨z_lnk zxt33 zxo397, fun _ h => absurd h List.not_mem_nil⟩⟩⟩⟩)) zxk398
def zxs399 : List (Nat × zSig) := []
def zxe399 : zCe := ((z_KF13, z_KC13, z_KL13, z_KT13, [], [], [], none), [], 4000)
theorem zxk399 : z_chk z_TYs z_PH z_cl z_FT z_MT zxs399 [] z_PS zxm103 zxg399 zxe399 = true := by decide +kernel
theorem zxo399 : z_OK z_TB z_cl z_FT z_TYs z_PH z_KX zxm103.1 zxm103.2.1 zxm103.2.2.1 zxm103.2.2.2.1 zxg399 := z_meth (mm := zxm103) (ce := zxe399) (SG := zxs399) (RO := []) (PHS := z_PS) (MT := z_MT) zxp103 (z_ks13 _ (fun _ h => List.mem_cons_of_mem _ h) _ _ _ _ (fun j r h _ => by cases h)) (fun j h => by cases h) (fun _ _ => zs_K_p) z_phk (z_fil _ (fun _ h => absurd h List.not_mem_nil)) zxk399
def zxs400 : List (Nat × zSig) := [(103, zxg399)]
def zxe400 : zCe := ((z_KF13, z_KC13, z_KL13, z_KT13, [(4, 0)], [], [], none), [], 4000)
theorem zxk400 : z_chk z_TYs z_PH z_cl z_FT z_MT zxs400 [] z_PS zxm165 zxg400 zxe400 = true := by decide +kernel
theorem zxo400 : z_OK z_TB z_cl z_FT z_TYs z_PH z_KX zxm165.1 zxm165.2.1 zxm165.2.2.1 zxm165.2.2.2.1 zxg400 := z_meth (mm := zxm165) (ce := zxe400) (SG := zxs400) (RO := []) (PHS := z_PS) (MT := z_MT) zxp165 (z_ks13 _ (fun _ h => List.mem_cons_of_mem _ h) _ _ _ _ (fun j r h _ => by cases h)) (fun j h => by cases h) (fun _ _ => zs_K_p) z_phk (z_fil _ (List.forall_mem_cons.mpr ⟨z_lnk zxt103 zxo399, fun _ h => absurd h List.not_mem_nil⟩)) zxk400
def zxs401 : List (Nat × zSig) := []
def zxe401 : zCe := ((z_KF13, z_KC13, z_KL13, z_KT13, [], [], [], none), [], 4000)
theorem zxk401 : z_chk z_TYs z_PH z_cl z_FT z_MT zxs401 [] z_PS zxm103 zxg401 zxe401 = true := by decide +kernel
theorem zxo401 : z_OK z_TB z_cl z_FT z_TYs z_PH z_KX zxm103.1 zxm103.2.1 zxm103.2.2.1 zxm103.2.2.2.1 zxg401 := z_meth (mm := zxm103) (ce := zxe401) (SG := zxs401) (RO := []) (PHS := z_PS) (MT := z_MT) zxp103 (z_ks13 _ (fun _ h => List.mem_cons_of_mem _ h) _ _ _ _ (fun j r h _ => by cases h)) (fun j h => by cases h) (fun _ _ => zs_K_p) z_phk (z_fil _ (fun _ h => absurd h List.not_mem_nil)) zxk401
def zxs402 : List (Nat × zSig) := [(103, zxg401)]
def zxe402 : zCe := ((z_KF13, z_KC13, z_KL13, z_KT13, [(4, 0)], [], [], none), [], 4000)
theorem zxk402 : z_chk z_TYs z_PH z_cl z_FT z_MT zxs402 [] z_PS zxm165 zxg402 zxe402 = true := by decide +kernel
theorem zxo402 : z_OK z_TB z_cl z_FT z_TYs z_PH z_KX zxm165.1 zxm165.2.1 zxm165.2.2.1 zxm165.2.2.2.1 zxg402 := z_meth (mm := zxm165) (ce := zxe402) (SG := zxs402) (RO := []) (PHS := z_PS) (MT := z_MT) zxp165 (z_ks13 _ (fun _ h => List.mem_cons_of_mem _ h) _ _ _ _ (fun j r h _ => by cases h)) (fun j h => by cases h) (fun _ _ => zs_K_p) z_phk (z_fil _ (List.forall_mem_cons.mpr ⟨z_lnk zxt103 zxo401, fun _ h => absurd h List.not_mem_nil⟩)) zxk402
def zxs403 : List (Nat × zSig) := []
def zxe403 : zCe := ((z_KF13, z_KC13, z_KL13, z_KT13, [], [], [], none), [], 4000)
theorem zxk403 : z_chk z_TYs z_PH z_cl z_FT z_MT zxs403 [] z_PS zxm103 zxg403 zxe403 = true := by decide +kernel
theorem zxo403 : z_OK z_TB z_cl z_FT z_TYs z_PH z_KX zxm103.1 zxm103.2.1 zxm103.2.2.1 zxm103.2.2.2.1 zxg403 := z_meth (mm := zxm103) (ce := zxe403) (SG := zxs403) (RO := []) (PHS := z_PS) (MT := z_MT) zxp103 (z_ks13 _ (fun _ h => List.mem_cons_of_mem _ h) _ _ _ _ (fun j r h _ => by cases h)) (fun j h => by cases h) (fun _ _ => zs_K_p) z_phk (z_fil _ (fun _ h => absurd h List.not_mem_nil)) zxk403
def zxs404 : List (Nat × zSig) := [(103, zxg403)]
def zxe404 : zCe := ((z_KF13, z_KC13, z_KL13, z_KT13, [(4, 0)], [], [], none), [(30, ([(0, 0), (1, 1), (2, 2)], [], 3, [(0, .inr (.inl 128)), (1, .inl (.ofNat 0, .ofNat 0)), (2, .inl (.ofNat 0, .ofNat 0))], [], [], [], [], (0, 0), 0), [(0, 0, 0, 0), (0, 1, 0, 0), (1, 2, 0, 0)], (.ofNat 2, [(2, .negSucc 1)]))], 4000)
theorem zxk404 : z_chk z_TYs z_PH z_cl z_FT z_MT zxs404 [] z_PS zxm165 zxg404 zxe404 = true := by decide +kernel
theorem zxo404 : z_OK z_TB z_cl z_FT z_TYs z_PH z_KX zxm165.1 zxm165.2.1 zxm165.2.2.1 zxm165.2.2.2.1 zxg404 := z_meth (mm := zxm165) (ce := zxe404) (SG := zxs404) (RO := []) (PHS := z_PS) (MT := z_MT) zxp165 (z_ks13 _ (fun _ h => List.mem_cons_of_mem _ h) _ _ _ _ (fun j r h _ => by cases h)) (fun j h => by cases h) (fun _ _ => zs_K_p) z_phk (z_fil _ (List.forall_mem_cons.mpr ⟨z_lnk zxt103 zxo403, fun _ h => absurd h List.not_mem_nil⟩)) zxk404
def zxs405 : List (Nat × zSig) := [(51, zxg149)]
def zxe405 : zCe := ((z_KF7, z_KC7, z_KL7, z_KT7, [(17, 0)], [], [], none), [(4, ([(0, 0), (1, 1), (2, 2)], [], 3, [(0, .inr (.inl 20)), (1, .inl (.ofNat 0, .ofNat 0)), (2, .inl (.ofNat 0, .ofNat 12))], [], [], [], [], (0, 0), 0), [(0, 0, 0, 0), (1, 1, 0, 0), (1, 2, 0, 0)], (.ofNat 26, [(2, .negSucc 1)]))], 4000)
theorem zxk405 : z_chk z_TYs z_PH z_cl z_FT z_MT zxs405 [] z_PS zxm100 zxg405 zxe405 = true := by decide +kernel
theorem zxo405 : z_OK z_TB z_cl z_FT z_TYs z_PH z_KX zxm100.1 zxm100.2.1 zxm100.2.2.1 zxm100.2.2.2.1 zxg405 := z_meth (mm := zxm100) (ce := zxe405) (SG := zxs405) (RO := []) (PHS := z_PS) (MT := z_MT) zxp100 (z_ks7 _ (fun _ h => List.mem_cons_of_mem _ h) _ _ _ _ (fun j r h _ => by cases h)) (fun j h => by cases h) (fun _ _ => zs_K_p) z_phk (z_fil _ (List.forall_mem_cons.mpr ⟨z_lnk zxt51 zxo149, fun _ h => absurd h List.not_mem_nil⟩)) zxk405
def zxs406 : List (Nat × zSig) := []
def zxe406 : zCe := ((z_KF0, z_KC0, z_KL0, z_KT0, [], [], [], none), [], 4000)
theorem zxk406 : z_chk z_TYs z_PH z_cl z_FT z_MT zxs406 [] z_PS zxm13 zxg406 zxe406 = true := by decide +kernel
theorem zxo406 : z_OK z_TB z_cl z_FT z_TYs z_PH z_KX zxm13.1 zxm13.2.1 zxm13.2.2.1 zxm13.2.2.2.1 zxg406 := z_meth (mm := zxm13) (ce := zxe406) (SG := zxs406) (RO := []) (PHS := z_PS) (MT := z_MT) zxp13 (z_ks0 _ (fun _ h => List.mem_cons_of_mem _ h) _ _ _ _ (fun j r h _ => by cases h)) (fun j h => by cases h) (fun _ _ => zs_K_p) z_phk (z_fil _ (fun _ h => absurd h List.not_mem_nil)) zxk406
def zxs407 : List (Nat × zSig) := []
def zxe407 : zCe := ((z_KF0, z_KC0, z_KL0, z_KT0, [], [], [], none), [], 4000)
theorem zxk407 : z_chk z_TYs z_PH z_cl z_FT z_MT zxs407 [] z_PS zxm13 zxg407 zxe407 = true := by decide +kernel
theorem zxo407 : z_OK z_TB z_cl z_FT z_TYs z_PH z_KX zxm13.1 zxm13.2.1 zxm13.2.2.1 zxm13.2.2.2.1 zxg407 := z_meth (mm := zxm13) (ce := zxe407) (SG := zxs407) (RO := []) (PHS := z_PS) (MT := z_MT) zxp13 (z_ks0 _ (fun _ h => List.mem_cons_of_mem _ h) _ _ _ _ (fun j r h _ => by cases h)) (fun j h => by cases h) (fun _ _ => zs_K_p) z_phk (z_fil _ (fun _ h => absurd h List.not_mem_nil)) zxk407
def zxs408 : List (Nat × zSig) := []
def zxe408 : zCe := ((z_KF7, z_KC7, z_KL7, z_KT7, [], [], [], none), [], 4000)
theorem zxk408 : z_chk z_TYs z_PH z_cl z_FT z_MT zxs408 [] z_PS zxm24 zxg408 zxe408 = true := by decide +kernel
theorem zxo408 : z_OK z_TB z_cl z_FT z_TYs z_PH z_KX zxm24.1 zxm24.2.1 zxm24.2.2.1 zxm24.2.2.2.1 zxg408 := z_meth (mm := zxm24) (ce := zxe408) (SG := zxs408) (RO := []) (PHS := z_PS) (MT := z_MT) zxp24 (z_ks7 _ (fun _ h => List.mem_cons_of_mem _ h) _ _ _ _ (fun j r h _ => by cases h)) (fun j h => by cases h) (fun _ _ => zs_K_p) z_phk (z_fil _ (fun _ h => absurd h List.not_mem_nil)) zxk408
def zxs409 : List (Nat × zSig) := [(51, zxg149), (100, zxg405), (13, zxg406), (13, zxg407), (24, zxg408)]
def zxe409 : zCe := ((z_KF0, z_KC0, z_KL0, z_KT0, [(91, 0), (158, 1), (167, 3), (167, 2), (181, 4)], [], [], none), [], 4000)
theorem zxk409 : z_chk z_TYs z_PH z_cl z_FT z_MT zxs409 [] z_PS zxm99 zxg409 zxe409 = true := by decide +kernel
theorem zxo409 : z_OK z_TB z_cl z_FT z_TYs z_PH z_KX zxm99.1 zxm99.2.1 zxm99.2.2.1 zxm99.2.2.2.1 zxg409 := z_meth (mm := zxm99) (ce := zxe409) (SG := zxs409) (RO := []) (PHS := z_PS) (MT := z_MT) zxp99 (z_ks0 _ (fun _ h => List.mem_cons_of_mem _ h) _ _ _ _ (fun j r h _ => by cases h)) (fun j h => by cases h) (fun _ _ => zs_K_p) z_phk (z_fil _ (List.forall_mem_cons.mpr ⟨z_lnk zxt51 zxo149, List.forall_mem_cons.mpr ⟨z_lnk zxt100 zxo405, List.forall_mem_cons.mpr ⟨z_lnk zxt13 zxo406, List.forall_mem_cons.mpr ⟨z_lnk zxt13 zxo407, List.forall_mem_cons.mpr ⟨z_lnk zxt24 zxo408, fun _ h => absurd h List.not_mem_nil⟩⟩⟩⟩⟩)) zxk409
def zxs410 : List (Nat × zSig) := []
def zxe410 : zCe := ((z_KF13, z_KC13, z_KL13, z_KT13, [], [], [], none), [], 4000)
theorem zxk410 : z_chk z_TYs z_PH z_cl z_FT z_MT zxs410 [] z_PS zxm103 zxg410 zxe410 = true := by decide +kernel
theorem zxo410 : z_OK z_TB z_cl z_FT z_TYs z_PH z_KX zxm103.1 zxm103.2.1 zxm103.2.2.1 zxm103.2.2.2.1 zxg410 := z_meth (mm := zxm103) (ce := zxe410) (SG := zxs410) (RO := []) (PHS := z_PS) (MT := z_MT) zxp103 (z_ks13 _ (fun _ h => List.mem_cons_of_mem _ h) _ _ _ _ (fun j r h _ => by cases h)) (fun j h => by cases h) (fun _ _ => zs_K_p) z_phk (z_fil _ (fun _ h => absurd h List.not_mem_nil)) zxk410
def zxs411 : List (Nat × zSig) := [(103, zxg410)]
def zxe411 : zCe := ((z_KF13, z_KC13, z_KL13, z_KT13, [(158, 0)], [], [], none), [], 4000)
theorem zxk411 : z_chk z_TYs z_PH z_cl z_FT z_MT zxs411 [] z_PS zxm166 zxg411 zxe411 = true := by decide +kernel
theorem zxo411 : z_OK z_TB z_cl z_FT z_TYs z_PH z_KX zxm166.1 zxm166.2.1 zxm166.2.2.1 zxm166.2.2.2.1 zxg411 := z_meth (mm := zxm166) (ce := zxe411) (SG := zxs411) (RO := []) (PHS := z_PS) (MT := z_MT) zxp166 (z_ks13 _ (fun _ h => List.mem_cons_of_mem _ h) _ _ _ _ (fun j r h _ => by cases h)) (fun j h => by cases h) (fun _ _ => zs_K_p) z_phk (z_fil _ (List.forall_mem_cons.mpr ⟨z_lnk zxt103 zxo410, fun _ h => absurd h List.not_mem_nil⟩)) zxk411
def zxs412 : List (Nat × zSig) := []
def zxe412 : zCe := ((z_KF13, z_KC13, z_KL13, z_KT13, [], [], [], none), [], 4000)
theorem zxk412 : z_chk z_TYs z_PH z_cl z_FT z_MT zxs412 [] z_PS zxm103 zxg412 zxe412 = true := by decide +kernel
theorem zxo412 : z_OK z_TB z_cl z_FT z_TYs z_PH z_KX zxm103.1 zxm103.2.1 zxm103.2.2.1 zxm103.2.2.2.1 zxg412 := z_meth (mm := zxm103) (ce := zxe412) (SG := zxs412) (RO := []) (PHS := z_PS) (MT := z_MT) zxp103 (z_ks13 _ (fun _ h => List.mem_cons_of_mem _ h) _ _ _ _ (fun j r h _ => by cases h)) (fun j h => by cases h) (fun _ _ => zs_K_p) z_phk (z_fil _ (fun _ h => absurd h List.not_mem_nil)) zxk412
def zxs413 : List (Nat × zSig) := [(107, zxg83)]
def zxe413 : zCe := ((z_KF13, z_KC13, z_KL13, z_KT13, [(18, 0)], [], [], none), [], 4000)
theorem zxk413 : z_chk z_TYs z_PH z_cl z_FT z_MT zxs413 [] z_PS zxm113 zxg413 zxe413 = true := by decide +kernel
theorem zxo413 : z_OK z_TB z_cl z_FT z_TYs z_PH z_KX zxm113.1 zxm113.2.1 zxm113.2.2.1 zxm113.2.2.2.1 zxg413 := z_meth (mm := zxm113) (ce := zxe413) (SG := zxs413) (RO := []) (PHS := z_PS) (MT := z_MT) zxp113 (z_ks13 _ (fun _ h => List.mem_cons_of_mem _ h) _ _ _ _ (fun j r h _ => by cases h)) (fun j h => by cases h) (fun _ _ => zs_K_p) z_phk (z_fil _ (List.forall_mem_cons.mpr ⟨z_lnk zxt107 zxo83, fun _ h => absurd h List.not_mem_nil⟩)) zxk413
def zxs414 : List (Nat × zSig) := [(103, zxg412), (113, zxg413)]
def zxe414 : zCe := ((z_KF13, z_KC13, z_KL13, z_KT13, [(158, 0), (169, 1)], [], [], none), [], 4000)
theorem zxk414 : z_chk z_TYs z_PH z_cl z_FT z_MT zxs414 [] z_PS zxm166 zxg414 zxe414 = true := by decide +kernel
theorem zxo414 : z_OK z_TB z_cl z_FT z_TYs z_PH z_KX zxm166.1 zxm166.2.1 zxm166.2.2.1 zxm166.2.2.2.1 zxg414 := z_meth (mm := zxm166) (ce := zxe414) (SG := zxs414) (RO := []) (PHS := z_PS) (MT := z_MT) zxp166 (z_ks13 _ (fun _ h => List.mem_cons_of_mem _ h) _ _ _ _ (fun j r h _ => by cases h)) (fun j h => by cases h) (fun _ _ => zs_K_p) z_phk (z_fil _ (List.forall_mem_cons.mpr ⟨z_lnk zxt103 zxo412, List.forall_mem_cons.mpr ⟨z_lnk zxt113 zxo413, fun _ h => absurd h List.not_mem_nil⟩⟩)) zxk414
def zxs415 : List (Nat × zSig) := []
def zxe415 : zCe := ((z_KF13, z_KC13, z_KL13, z_KT13, [], [], [], none), [], 4000)
theorem zxk415 : z_chk z_TYs z_PH z_cl z_FT z_MT zxs415 [] z_PS zxm166 zxg415 zxe415 = true := by decide +kernel
theorem zxo415 : z_OK z_TB z_cl z_FT z_TYs z_PH z_KX zxm166.1 zxm166.2.1 zxm166.2.2.1 zxm166.2.2.2.1 zxg415 := z_meth (mm := zxm166) (ce := zxe415) (SG := zxs415) (RO := []) (PHS := z_PS) (MT := z_MT) zxp166 (z_ks13 _ (fun _ h => List.mem_cons_of_mem _ h) _ _ _ _ (fun j r h _ => by cases h)) (fun j h => by cases h) (fun _ _ => zs_K_p) z_phk (z_fil _ (fun _ h => absurd h List.not_mem_nil)) zxk415
def zxs416 : List (Nat × zSig) := []
def zxe416 : zCe := ((z_KF13, z_KC13, z_KL13, z_KT13, [], [], [], none), [], 4000)
theorem zxk416 : z_chk z_TYs z_PH z_cl z_FT z_MT zxs416 [] z_PS zxm166 zxg416 zxe416 = true := by decide +kernel
theorem zxo416 : z_OK z_TB z_cl z_FT z_TYs z_PH z_KX zxm166.1 zxm166.2.1 zxm166.2.2.1 zxm166.2.2.2.1 zxg416 := z_meth (mm := zxm166) (ce := zxe416) (SG := zxs416) (RO := []) (PHS := z_PS) (MT := z_MT) zxp166 (z_ks13 _ (fun _ h => List.mem_cons_of_mem _ h) _ _ _ _ (fun j r h _ => by cases h)) (fun j h => by cases h) (fun _ _ => zs_K_p) z_phk (z_fil _ (fun _ h => absurd h List.not_mem_nil)) zxk416
def zxs417 : List (Nat × zSig) := []
def zxe417 : zCe := ((z_KF13, z_KC13, z_KL13, z_KT13, [], [], [], none), [], 4000)
theorem zxk417 : z_chk z_TYs z_PH z_cl z_FT z_MT zxs417 [] z_PS zxm166 zxg417 zxe417 = true := by decide +kernel
theorem zxo417 : z_OK z_TB z_cl z_FT z_TYs z_PH z_KX zxm166.1 zxm166.2.1 zxm166.2.2.1 zxm166.2.2.2.1 zxg417 := z_meth (mm := zxm166) (ce := zxe417) (SG := zxs417) (RO := []) (PHS := z_PS) (MT := z_MT) zxp166 (z_ks13 _ (fun _ h => List.mem_cons_of_mem _ h) _ _ _ _ (fun j r h _ => by cases h)) (fun j h => by cases h) (fun _ _ => zs_K_p) z_phk (z_fil _ (fun _ h => absurd h List.not_mem_nil)) zxk417
def zxs418 : List (Nat × zSig) := []
def zxe418 : zCe := ((z_KF13, z_KC13, z_KL13, z_KT13, [], [], [], none), [(4, ([(0, 0), (1, 1), (2, 2)], [], 3, [(0, .inr (.inl 128)), (1, .inl (.ofNat 0, .ofNat 0)), (2, .inl (.ofNat 0, .ofNat 288))], [], [], [], [], (0, 0), 0), [(0, 0, 0, 0), (1, 1, 0, 0), (1, 2, 0, 0)], (.ofNat 578, [(2, .negSucc 1)]))], 4000)
theorem zxk418 : z_chk z_TYs z_PH z_cl z_FT z_MT zxs418 [] z_PS zxm167 zxg418 zxe418 = true := by decide +kernel
theorem zxo418 : z_OK z_TB z_cl z_FT z_TYs z_PH z_KX zxm167.1 zxm167.2.1 zxm167.2.2.1 zxm167.2.2.2.1 zxg418 := z_meth (mm := zxm167) (ce := zxe418) (SG := zxs418) (RO := []) (PHS := z_PS) (MT := z_MT) zxp167 (z_ks13 _ (fun _ h => List.mem_cons_of_mem _ h) _ _ _ _ (fun j r h _ => by cases h)) (fun j h => by cases h) (fun _ _ => zs_K_p) z_phk (z_fil _ (fun _ h => absurd h List.not_mem_nil)) zxk418
def zxs419 : List (Nat × zSig) := [(167, zxg418)]
def zxe419 : zCe := ((z_KF13, z_KC13, z_KL13, z_KT13, [(149, 0)], [], [], none), [], 4000)
theorem zxk419 : z_chk z_TYs z_PH z_cl z_FT z_MT zxs419 [] z_PS zxm166 zxg419 zxe419 = true := by decide +kernel
theorem zxo419 : z_OK z_TB z_cl z_FT z_TYs z_PH z_KX zxm166.1 zxm166.2.1 zxm166.2.2.1 zxm166.2.2.2.1 zxg419 := z_meth (mm := zxm166) (ce := zxe419) (SG := zxs419) (RO := []) (PHS := z_PS) (MT := z_MT) zxp166 (z_ks13 _ (fun _ h => List.mem_cons_of_mem _ h) _ _ _ _ (fun j r h _ => by cases h)) (fun j h => by cases h) (fun _ _ => zs_K_p) z_phk (z_fil _ (List.forall_mem_cons.mpr ⟨z_lnk zxt167 zxo418, fun _ h => absurd h List.not_mem_nil⟩)) zxk419
