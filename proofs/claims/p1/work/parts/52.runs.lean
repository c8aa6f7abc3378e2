/-! Certificates. -/
def zxs293 : List (Nat × zSig) := []
def zxe293 : zCe := ((z_KF0, z_KC0, z_KL0, z_KT0, [], [], [], none), [], 4000)
theorem zxk293 : z_chk z_TYs z_PH z_cl z_FT z_MT zxs293 [] z_PS zxm82 zxg293 zxe293 = true := by decide +kernel
theorem zxo293 : z_OK z_TB z_cl z_FT z_TYs z_PH z_KX zxm82.1 zxm82.2.1 zxm82.2.2.1 zxm82.2.2.2.1 zxg293 := z_meth (mm := zxm82) (ce := zxe293) (SG := zxs293) (RO := []) (PHS := z_PS) (MT := z_MT) zxp82 (z_ks0 _ (fun _ h => List.mem_cons_of_mem _ h) _ _ _ _ (fun j r h _ => by cases h)) (fun j h => by cases h) (fun _ _ => zs_K_p) z_phk (z_fil _ (fun _ h => absurd h List.not_mem_nil)) zxk293
def zxs294 : List (Nat × zSig) := []
def zxe294 : zCe := ((z_KF13, z_KC13, z_KL13, z_KT13, [], [], [], none), [], 4000)
theorem zxk294 : z_chk z_TYs z_PH z_cl z_FT z_MT zxs294 [] z_PS zxm149 zxg294 zxe294 = true := by decide +kernel
theorem zxo294 : z_OK z_TB z_cl z_FT z_TYs z_PH z_KX zxm149.1 zxm149.2.1 zxm149.2.2.1 zxm149.2.2.2.1 zxg294 := z_meth (mm := zxm149) (ce := zxe294) (SG := zxs294) (RO := []) (PHS := z_PS) (MT := z_MT) zxp149 (z_ks13 _ (fun _ h => List.mem_cons_of_mem _ h) _ _ _ _ (fun j r h _ => by cases h)) (fun j h => by cases h) (fun _ _ => zs_K_p) z_phk (z_fil _ (fun _ h => absurd h List.not_mem_nil)) zxk294
def zxs295 : List (Nat × zSig) := [(24, zxg242)]
def zxe295 : zCe := ((z_KF0, z_KC0, z_KL0, z_KT0, [(5, 0)], [], [], none), [], 4000)
theorem zxk295 : z_chk z_TYs z_PH z_cl z_FT z_MT zxs295 [] z_PS zxm83 zxg295 zxe295 = true := by decide +kernel
theorem zxo295 : z_OK z_TB z_cl z_FT z_TYs z_PH z_KX zxm83.1 zxm83.2.1 zxm83.2.2.1 zxm83.2.2.2.1 zxg295 := z_meth (mm := zxm83) (ce := zxe295) (SG := zxs295) (RO := []) (PHS := z_PS) (MT := z_MT) zxp83 (z_ks0 _ (fun _ h => List.mem_cons_of_mem _ h) _ _ _ _ (fun j r h _ => by cases h)) (fun j h => by cases h) (fun _ _ => zs_K_p) z_phk (z_fil _ (List.forall_mem_cons.mpr ⟨z_lnk zxt24 zxo242, fun _ h => absurd h List.not_mem_nil⟩)) zxk295
def zxs296 : List (Nat × zSig) := [(113, zxg245)]
def zxe296 : zCe := ((z_KF13, z_KC13, z_KL13, z_KT13, [(2, 0)], [], [], none), [], 4000)
theorem zxk296 : z_chk z_TYs z_PH z_cl z_FT z_MT zxs296 [] z_PS zxm153 zxg296 zxe296 = true := by decide +kernel
theorem zxo296 : z_OK z_TB z_cl z_FT z_TYs z_PH z_KX zxm153.1 zxm153.2.1 zxm153.2.2.1 zxm153.2.2.2.1 zxg296 := z_meth (mm := zxm153) (ce := zxe296) (SG := zxs296) (RO := []) (PHS := z_PS) (MT := z_MT) zxp153 (z_ks13 _ (fun _ h => List.mem_cons_of_mem _ h) _ _ _ _ (fun j r h _ => by cases h)) (fun j h => by cases h) (fun _ _ => zs_K_p) z_phk (z_fil _ (List.forall_mem_cons.mpr ⟨z_lnk zxt113 zxo245, fun _ h => absurd h List.not_mem_nil⟩)) zxk296
def zxs297 : List (Nat × zSig) := [(24, zxg242)]
def zxe297 : zCe := ((z_KF0, z_KC0, z_KL0, z_KT0, [(5, 0)], [], [], none), [], 4000)
theorem zxk297 : z_chk z_TYs z_PH z_cl z_FT z_MT zxs297 [] z_PS zxm85 zxg297 zxe297 = true := by decide +kernel
theorem zxo297 : z_OK z_TB z_cl z_FT z_TYs z_PH z_KX zxm85.1 zxm85.2.1 zxm85.2.2.1 zxm85.2.2.2.1 zxg297 := z_meth (mm := zxm85) (ce := zxe297) (SG := zxs297) (RO := []) (PHS := z_PS) (MT := z_MT) zxp85 (z_ks0 _ (fun _ h => List.mem_cons_of_mem _ h) _ _ _ _ (fun j r h _ => by cases h)) (fun j h => by cases h) (fun _ _ => zs_K_p) z_phk (z_fil _ (List.forall_mem_cons.mpr ⟨z_lnk zxt24 zxo242, fun _ h => absurd h List.not_mem_nil⟩)) zxk297
def zxs298 : List (Nat × zSig) := [(85, zxg297)]
def zxe298 : zCe := ((z_KF0, z_KC0, z_KL0, z_KT0, [(4, 0)], [], [], none), [], 4000)
theorem zxk298 : z_chk z_TYs z_PH z_cl z_FT z_MT zxs298 [] z_PS zxm84 zxg298 zxe298 = true := by decide +kernel
theorem zxo298 : z_OK z_TB z_cl z_FT z_TYs z_PH z_KX zxm84.1 zxm84.2.1 zxm84.2.2.1 zxm84.2.2.2.1 zxg298 := z_meth (mm := zxm84) (ce := zxe298) (SG := zxs298) (RO := []) (PHS := z_PS) (MT := z_MT) zxp84 (z_ks0 _ (fun _ h => List.mem_cons_of_mem _ h) _ _ _ _ (fun j r h _ => by cases h)) (fun j h => by cases h) (fun _ _ => zs_K_p) z_phk (z_fil _ (List.forall_mem_cons.mpr ⟨z_lnk zxt85 zxo297, fun _ h => absurd h List.not_mem_nil⟩)) zxk298
def zxs299 : List (Nat × zSig) := [(113, zxg245)]
def zxe299 : zCe := ((z_KF13, z_KC13, z_KL13, z_KT13, [(2, 0)], [], [], none), [], 4000)
theorem zxk299 : z_chk z_TYs z_PH z_cl z_FT z_MT zxs299 [] z_PS zxm154 zxg299 zxe299 = true := by decide +kernel
theorem zxo299 : z_OK z_TB z_cl z_FT z_TYs z_PH z_KX zxm154.1 zxm154.2.1 zxm154.2.2.1 zxm154.2.2.2.1 zxg299 := z_meth (mm := zxm154) (ce := zxe299) (SG := zxs299) (RO := []) (PHS := z_PS) (MT := z_MT) zxp154 (z_ks13 _ (fun _ h => List.mem_cons_of_mem _ h) _ _ _ _ (fun j r h _ => by cases h)) (fun j h => by cases h) (fun _ _ => zs_K_p) z_phk (z_fil _ (List.forall_mem_cons.mpr ⟨z_lnk zxt113 zxo245, fun _ h => absurd h List.not_mem_nil⟩)) zxk299
def zxs300 : List (Nat × zSig) := [(85, zxg297)]
def zxe300 : zCe := ((z_KF0, z_KC0, z_KL0, z_KT0, [(4, 0)], [], [], none), [], 4000)
theorem zxk300 : z_chk z_TYs z_PH z_cl z_FT z_MT zxs300 [] z_PS zxm86 zxg300 zxe300 = true := by decide +kernel
theorem zxo300 : z_OK z_TB z_cl z_FT z_TYs z_PH z_KX zxm86.1 zxm86.2.1 zxm86.2.2.1 zxm86.2.2.2.1 zxg300 := z_meth (mm := zxm86) (ce := zxe300) (SG := zxs300) (RO := []) (PHS := z_PS) (MT := z_MT) zxp86 (z_ks0 _ (fun _ h => List.mem_cons_of_mem _ h) _ _ _ _ (fun j r h _ => by cases h)) (fun j h => by cases h) (fun _ _ => zs_K_p) z_phk (z_fil _ (List.forall_mem_cons.mpr ⟨z_lnk zxt85 zxo297, fun _ h => absurd h List.not_mem_nil⟩)) zxk300
def zxs301 : List (Nat × zSig) := [(113, zxg245)]
def zxe301 : zCe := ((z_KF13, z_KC13, z_KL13, z_KT13, [(2, 0)], [], [], none), [], 4000)
theorem zxk301 : z_chk z_TYs z_PH z_cl z_FT z_MT zxs301 [] z_PS zxm155 zxg301 zxe301 = true := by decide +kernel
theorem zxo301 : z_OK z_TB z_cl z_FT z_TYs z_PH z_KX zxm155.1 zxm155.2.1 zxm155.2.2.1 zxm155.2.2.2.1 zxg301 := z_meth (mm := zxm155) (ce := zxe301) (SG := zxs301) (RO := []) (PHS := z_PS) (MT := z_MT) zxp155 (z_ks13 _ (fun _ h => List.mem_cons_of_mem _ h) _ _ _ _ (fun j r h _ => by cases h)) (fun j h => by cases h) (fun _ _ => zs_K_p) z_phk (z_fil _ (List.forall_mem_cons.mpr ⟨z_lnk zxt113 zxo245, fun _ h => absurd h List.not_mem_nil⟩)) zxk301
def zxs302 : List (Nat × zSig) := []
def zxe302 : zCe := ((z_KF0, z_KC0, z_KL0, z_KT0, [], [], [], none), [], 4000)
theorem zxk302 : z_chk z_TYs z_PH z_cl z_FT z_MT zxs302 [] z_PS zxm13 zxg302 zxe302 = true := by decide +kernel
theorem zxo302 : z_OK z_TB z_cl z_FT z_TYs z_PH z_KX zxm13.1 zxm13.2.1 zxm13.2.2.1 zxm13.2.2.2.1 zxg302 := z_meth (mm := zxm13) (ce := zxe302) (SG := zxs302) (RO := []) (PHS := z_PS) (MT := z_MT) zxp13 (z_ks0 _ (fun _ h => List.mem_cons_of_mem _ h) _ _ _ _ (fun j r h _ => by cases h)) (fun j h => by cases h) (fun _ _ => zs_K_p) z_phk (z_fil _ (fun _ h => absurd h List.not_mem_nil)) zxk302
def zxs303 : List (Nat × zSig) := []
def zxe303 : zCe := ((z_KF16, z_KC16, z_KL16, z_KT16, [], [], [], none), [(5, ([(0, 0), (1, 1), (2, 2), (3, 3)], [], 4, [(0, .inr (.inl 54)), (1, .inl (.ofNat 0, .ofNat 0)), (2, .inl (.ofNat 0, .ofNat 24)), (3, .inl (.ofNat 24, .ofNat 24))], [], [], [], [], (0, 0), 0), [(0, 0, 0, 0), (0, 1, 0, 0), (1, 2, 0, 0), (1, 3, 0, 0)], (.ofNat 50, [(2, .negSucc 1)]))], 4000)
theorem zxk303 : z_chk z_TYs z_PH z_cl z_FT z_MT zxs303 [] z_PS zxm37 zxg303 zxe303 = true := by decide +kernel
theorem zxo303 : z_OK z_TB z_cl z_FT z_TYs z_PH z_KX zxm37.1 zxm37.2.1 zxm37.2.2.1 zxm37.2.2.2.1 zxg303 := z_meth (mm := zxm37) (ce := zxe303) (SG := zxs303) (RO := []) (PHS := z_PS) (MT := z_MT) zxp37 (z_ks16 _ (fun _ h => List.mem_cons_of_mem _ h) _ _ _ _ (fun j r h _ => by cases h)) (fun j h => by cases h) (fun _ _ => zs_K_p) z_phk (z_fil _ (fun _ h => absurd h List.not_mem_nil)) zxk303
def zxs304 : List (Nat × zSig) := [(37, zxg303)]
def zxe304 : zCe := ((z_KF11, z_KC11, z_KL11, z_KT11, [(20, 0)], [], [], none), [], 4000)
theorem zxk304 : z_chk z_TYs z_PH z_cl z_FT z_MT zxs304 [] z_PS zxm40 zxg304 zxe304 = true := by decide +kernel
theorem zxo304 : z_OK z_TB z_cl z_FT z_TYs z_PH z_KX zxm40.1 zxm40.2.1 zxm40.2.2.1 zxm40.2.2.2.1 zxg304 := z_meth (mm := zxm40) (ce := zxe304) (SG := zxs304) (RO := []) (PHS := z_PS) (MT := z_MT) zxp40 (z_ks11 _ (fun _ h => List.mem_cons_of_mem _ h) _ _ _ _ (fun j r h _ => by cases h)) (fun j h => by cases h) (fun _ _ => zs_K_p) z_phk (z_fil _ (List.forall_mem_cons.mpr ⟨z_lnk zxt37 zxo303, fun _ h => absurd h List.not_mem_nil⟩)) zxk304
def zxs305 : List (Nat × zSig) := [(43, zxg128), (44, zxg129)]
def zxe305 : zCe := ((z_KF11, z_KC11, z_KL11, z_KT11, [(14, 0), (25, 1)], [], [], none), [], 4000)
theorem zxk305 : z_chk z_TYs z_PH z_cl z_FT z_MT zxs305 [] z_PS zxm42 zxg305 zxe305 = true := by decide +kernel
theorem zxo305 : z_OK z_TB z_cl z_FT z_TYs z_PH z_KX zxm42.1 zxm42.2.1 zxm42.2.2.1 zxm42.2.2.2.1 zxg305 := z_meth (mm := zxm42) (ce := zxe305) (SG := zxs305) (RO := []) (PHS := z_PS) (MT := z_MT) zxp42 (z_ks11 _ (fun _ h => List.mem_cons_of_mem _ h) _ _ _ _ (fun j r h _ => by cases h)) (fun j h => by cases h) (fun _ _ => zs_K_p) z_phk (z_fil _ (List.forall_mem_cons.mpr ⟨z_lnk zxt43 zxo128, List.forall_mem_cons.mpr ⟨z_lnk zxt44 zxo129, fun _ h => absurd h List.not_mem_nil⟩⟩)) zxk305
def zxs306 : List (Nat × zSig) := [(16, zxg131)]
def zxe306 : zCe := ((z_KF11, z_KC11, z_KL11, z_KT11, [(5, 0)], [], [], none), [], 4000)
theorem zxk306 : z_chk z_TYs z_PH z_cl z_FT z_MT zxs306 [] z_PS zxm45 zxg306 zxe306 = true := by decide +kernel
theorem zxo306 : z_OK z_TB z_cl z_FT z_TYs z_PH z_KX zxm45.1 zxm45.2.1 zxm45.2.2.1 zxm45.2.2.2.1 zxg306 := z_meth (mm := zxm45) (ce := zxe306) (SG := zxs306) (RO := []) (PHS := z_PS) (MT := z_MT) zxp45 (z_ks11 _ (fun _ h => List.mem_cons_of_mem _ h) _ _ _ _ (fun j r h _ => by cases h)) (fun j h => by cases h) (fun _ _ => zs_K_p) z_phk (z_fil _ (List.forall_mem_cons.mpr ⟨z_lnk zxt16 zxo131, fun _ h => absurd h List.not_mem_nil⟩)) zxk306
def zxs307 : List (Nat × zSig) := [(42, zxg305), (45, zxg306)]
def zxe307 : zCe := ((z_KF11, z_KC11, z_KL11, z_KT11, [(3, 0), (21, 1)], [], [], none), [(13, ([(0, 0), (3, 3)], [], 4, [(0, .inr (.inl 56)), (1, .inl (.ofNat 0, .ofNat 23)), (2, .inl (.ofNat 0, .ofNat 11)), (3, .inl (.ofNat 0, .ofNat 24))], [], [], [], [], (0, 0), 0), [(0, 0, 0, 0), (0, 1, 0, 0), (0, 2, 0, 0), (1, 3, 0, 0)], (.ofNat 50, [(3, .negSucc 1)]))], 4000)
theorem zxk307 : z_chk z_TYs z_PH z_cl z_FT z_MT zxs307 [] z_PS zxm41 zxg307 zxe307 = true := by decide +kernel
theorem zxo307 : z_OK z_TB z_cl z_FT z_TYs z_PH z_KX zxm41.1 zxm41.2.1 zxm41.2.2.1 zxm41.2.2.2.1 zxg307 := z_meth (mm := zxm41) (ce := zxe307) (SG := zxs307) (RO := []) (PHS := z_PS) (MT := z_MT) zxp41 (z_ks11 _ (fun _ h => List.mem_cons_of_mem _ h) _ _ _ _ (fun j r h _ => by cases h)) (fun j h => by cases h) (fun _ _ => zs_K_p) z_phk (z_fil _ (List.forall_mem_cons.mpr ⟨z_lnk zxt42 zxo305, List.forall_mem_cons.mpr ⟨z_lnk zxt45 zxo306, fun _ h => absurd h List.not_mem_nil⟩⟩)) zxk307
def zxs308 : List (Nat × zSig) := []
def zxe308 : zCe := ((z_KF16, z_KC16, z_KL16, z_KT16, [], [], [], none), [(5, ([(0, 0), (1, 1), (2, 2), (3, 3)], [], 4, [(0, .inr (.inl 53)), (1, .inl (.ofNat 0, .ofNat 0)), (2, .inl (.ofNat 0, .ofNat 24)), (3, .inl (.ofNat 24, .ofNat 24))], [], [], [], [], (0, 0), 0), [(0, 0, 0, 0), (0, 1, 0, 0), (1, 2, 0, 0), (1, 3, 0, 0)], (.ofNat 50, [(2, .negSucc 1)]))], 4000)
theorem zxk308 : z_chk z_TYs z_PH z_cl z_FT z_MT zxs308 [] z_PS zxm37 zxg308 zxe308 = true := by decide +kernel
theorem zxo308 : z_OK z_TB z_cl z_FT z_TYs z_PH z_KX zxm37.1 zxm37.2.1 zxm37.2.2.1 zxm37.2.2.2.1 zxg308 := z_meth (mm := zxm37) (ce := zxe308) (SG := zxs308) (RO := []) (PHS := z_PS) (MT := z_MT) zxp37 (z_ks16 _ (fun _ h => List.mem_cons_of_mem _ h) _ _ _ _ (fun j r h _ => by cases h)) (fun j h => by cases h) (fun _ _ => zs_K_p) z_phk (z_fil _ (fun _ h => absurd h List.not_mem_nil)) zxk308
def zxs309 : List (Nat × zSig) := [(37, zxg308)]
def zxe309 : zCe := ((z_KF11, z_KC11, z_KL11, z_KT11, [(5, 0)], [], [], none), [], 4000)
theorem zxk309 : z_chk z_TYs z_PH z_cl z_FT z_MT zxs309 [] z_PS zxm48 zxg309 zxe309 = true := by decide +kernel
theorem zxo309 : z_OK z_TB z_cl z_FT z_TYs z_PH z_KX zxm48.1 zxm48.2.1 zxm48.2.2.1 zxm48.2.2.2.1 zxg309 := z_meth (mm := zxm48) (ce := zxe309) (SG := zxs309) (RO := []) (PHS := z_PS) (MT := z_MT) zxp48 (z_ks11 _ (fun _ h => List.mem_cons_of_mem _ h) _ _ _ _ (fun j r h _ => by cases h)) (fun j h => by cases h) (fun _ _ => zs_K_p) z_phk (z_fil _ (List.forall_mem_cons.mpr ⟨z_lnk zxt37 zxo308, fun _ h => absurd h List.not_mem_nil⟩)) zxk309
def zxs310 : List (Nat × zSig) := [(40, zxg304), (41, zxg307), (48, zxg309)]
def zxe310 : zCe := ((z_KF0, z_KC0, z_KL0, z_KT0, [(9, 0), (15, 1), (19, 2)], [], [], none), [], 4000)
theorem zxk310 : z_chk z_TYs z_PH z_cl z_FT z_MT zxs310 [] z_PS zxm47 zxg310 zxe310 = true := by decide +kernel
theorem zxo310 : z_OK z_TB z_cl z_FT z_TYs z_PH z_KX zxm47.1 zxm47.2.1 zxm47.2.2.1 zxm47.2.2.2.1 zxg310 := z_meth (mm := zxm47) (ce := zxe310) (SG := zxs310) (RO := []) (PHS := z_PS) (MT := z_MT) zxp47 (z_ks0 _ (fun _ h => List.mem_cons_of_mem _ h) _ _ _ _ (fun j r h _ => by cases h)) (fun j h => by cases h) (fun _ _ => zs_K_p) z_phk (z_fil _ (List.forall_mem_cons.mpr ⟨z_lnk zxt40 zxo304, List.forall_mem_cons.mpr ⟨z_lnk zxt41 zxo307, List.forall_mem_cons.mpr ⟨z_lnk zxt48 zxo309, fun _ h => absurd h List.not_mem_nil⟩⟩⟩)) zxk310
def zxs311 : List (Nat × zSig) := []
def zxe311 : zCe := ((z_KF11, z_KC11, z_KL11, z_KT11, [], [], [], none), [(15, ([(0, 0), (1, 1), (2, 2)], [], 3, [(0, .inr (.inl 52)), (1, .inr (.inl 56)), (2, .inl (.ofNat 0, .ofNat 24))], [], [], [], [], (0, 0), 0), [(0, 0, 0, 0), (0, 1, 0, 0), (1, 2, 0, 0)], (.ofNat 50, [(2, .negSucc 1)]))], 4000)
theorem zxk311 : z_chk z_TYs z_PH z_cl z_FT z_MT zxs311 [] z_PS zxm88 zxg311 zxe311 = true := by decide +kernel
theorem zxo311 : z_OK z_TB z_cl z_FT z_TYs z_PH z_KX zxm88.1 zxm88.2.1 zxm88.2.2.1 zxm88.2.2.2.1 zxg311 := z_meth (mm := zxm88) (ce := zxe311) (SG := zxs311) (RO := []) (PHS := z_PS) (MT := z_MT) zxp88 (z_ks11 _ (fun _ h => List.mem_cons_of_mem _ h) _ _ _ _ (fun j r h _ => by cases h)) (fun j h => by cases h) (fun _ _ => zs_K_p) z_phk (z_fil _ (fun _ h => absurd h List.not_mem_nil)) zxk311
def zxs312 : List (Nat × zSig) := [(13, zxg302), (13, zxg193), (29, zxg93), (28, zxg92), (47, zxg148), (47, zxg310), (88, zxg311), (50, zxg150)]
def zxe312 : zCe := ((z_KF0, z_KC0, z_KL0, z_KT0, [(5, 0), (16, 0), (25, 1), (65, 2), (69, 3), (72, 4), (81, 2), (85, 3), (88, 5), (99, 6), (169, 7)], [], [], none), [], 4000)
theorem zxk312 : z_chk z_TYs z_PH z_cl z_FT z_MT zxs312 [] z_PS zxm87 zxg312 zxe312 = true := by decide +kernel
theorem zxo312 : z_OK z_TB z_cl z_FT z_TYs z_PH z_KX zxm87.1 zxm87.2.1 zxm87.2.2.1 zxm87.2.2.2.1 zxg312 := z_meth (mm := zxm87) (ce := zxe312) (SG := zxs312) (RO := []) (PHS := z_PS) (MT := z_MT) zxp87 (z_ks0 _ (fun _ h => List.mem_cons_of_mem _ h) _ _ _ _ (fun j r h _ => by cases h)) (fun j h => by cases h) (fun _ _ => zs_K_p) z_phk (z_fil _ (List.forall_mem_cons.mpr ⟨z_lnk zxt13 zxo302, List.forall_mem_cons.mpr ⟨z_lnk zxt13 zxo193, List.forall_mem_cons.mpr ⟨z_lnk zxt29 zxo93, List.forall_mem_cons.mpr ⟨z_lnk zxt28 zxo92, List.forall_mem_cons.mpr ⟨z_lnk zxt47 zxo148, List.forall_mem_cons.mpr ⟨z_lnk zxt47 zxo310, List.forall_mem_cons.mpr ⟨z_lnk zxt88 zxo311, List.forall_mem_cons.mpr ⟨z_lnk zxt50 zxo150, fun _ h => absurd h List.not_mem_nil⟩⟩⟩⟩⟩⟩⟩⟩)) zxk312
def zxs313 : List (Nat × zSig) := []
def zxe313 : zCe := ((z_KF13, z_KC13, z_KL13, z_KT13, [], [], [], none), [], 4000)
theorem zxk313 : z_chk z_TYs z_PH z_cl z_FT z_MT zxs313 [] z_PS zxm103 zxg313 zxe313 = true := by decide +kernel
theorem zxo313 : z_OK z_TB z_cl z_FT z_TYs z_PH z_KX zxm103.1 zxm103.2.1 zxm103.2.2.1 zxm103.2.2.2.1 zxg313 := z_meth (mm := zxm103) (ce := zxe313) (SG := zxs313) (RO := []) (PHS := z_PS) (MT := z_MT) zxp103 (z_ks13 _ (fun _ h => List.mem_cons_of_mem _ h) _ _ _ _ (fun j r h _ => by cases h)) (fun j h => by cases h) (fun _ _ => zs_K_p) z_phk (z_fil _ (fun _ h => absurd h List.not_mem_nil)) zxk313
def zxs314 : List (Nat × zSig) := [(103, zxg313)]
def zxe314 : zCe := ((z_KF13, z_KC13, z_KL13, z_KT13, [(5, 0)], [], [], none), [], 4000)
theorem zxk314 : z_chk z_TYs z_PH z_cl z_FT z_MT zxs314 [] z_PS zxm156 zxg314 zxe314 = true := by decide +kernel
theorem zxo314 : z_OK z_TB z_cl z_FT z_TYs z_PH z_KX zxm156.1 zxm156.2.1 zxm156.2.2.1 zxm156.2.2.2.1 zxg314 := z_meth (mm := zxm156) (ce := zxe314) (SG := zxs314) (RO := []) (PHS := z_PS) (MT := z_MT) zxp156 (z_ks13 _ (fun _ h => List.mem_cons_of_mem _ h) _ _ _ _ (fun j r h _ => by cases h)) (fun j h => by cases h) (fun _ _ => zs_K_p) z_phk (z_fil _ (List.forall_mem_cons.mpr ⟨z_lnk zxt103 zxo313, fun _ h => absurd h List.not_mem_nil⟩)) zxk314
def zxs315 : List (Nat × zSig) := []
def zxe315 : zCe := ((z_KF13, z_KC13, z_KL13, z_KT13, [], [], [], none), [], 4000)
theorem zxk315 : z_chk z_TYs z_PH z_cl z_FT z_MT zxs315 [] z_PS zxm103 zxg315 zxe315 = true := by decide +kernel
theorem zxo315 : z_OK z_TB z_cl z_FT z_TYs z_PH z_KX zxm103.1 zxm103.2.1 zxm103.2.2.1 zxm103.2.2.2.1 zxg315 := z_meth (mm := zxm103) (ce := zxe315) (SG := zxs315) (RO := []) (PHS := z_PS) (MT := z_MT) zxp103 (z_ks13 _ (fun _ h => List.mem_cons_of_mem _ h) _ _ _ _ (fun j r h _ => by cases h)) (fun j h => by cases h) (fun _ _ => zs_K_p) z_phk (z_fil _ (fun _ h => absurd h List.not_mem_nil)) zxk315
def zxs316 : List (Nat × zSig) := [(103, zxg315)]
def zxe316 : zCe := ((z_KF13, z_KC13, z_KL13, z_KT13, [(5, 0)], [], [], none), [], 4000)
theorem zxk316 : z_chk z_TYs z_PH z_cl z_FT z_MT zxs316 [] z_PS zxm156 zxg316 zxe316 = true := by decide +kernel
theorem zxo316 : z_OK z_TB z_cl z_FT z_TYs z_PH z_KX zxm156.1 zxm156.2.1 zxm156.2.2.1 zxm156.2.2.2.1 zxg316 := z_meth (mm := zxm156) (ce := zxe316) (SG := zxs316) (RO := []) (PHS := z_PS) (MT := z_MT) zxp156 (z_ks13 _ (fun _ h => List.mem_cons_of_mem _ h) _ _ _ _ (fun j r h _ => by cases h)) (fun j h => by cases h) (fun _ _ => zs_K_p) z_phk (z_fil _ (List.forall_mem_cons.mpr ⟨z_lnk zxt103 zxo315, fun _ h => absurd h List.not_mem_nil⟩)) zxk316
def zxs317 : List (Nat × zSig) := []
def zxe317 : zCe := ((z_KF13, z_KC13, z_KL13, z_KT13, [], [], [], none), [], 4000)
theorem zxk317 : z_chk z_TYs z_PH z_cl z_FT z_MT zxs317 [] z_PS zxm103 zxg317 zxe317 = true := by decide +kernel
theorem zxo317 : z_OK z_TB z_cl z_FT z_TYs z_PH z_KX zxm103.1 zxm103.2.1 zxm103.2.2.1 zxm103.2.2.2.1 zxg317 := z_meth (mm := zxm103) (ce := zxe317) (SG := zxs317) (RO := []) (PHS := z_PS) (MT := z_MT) zxp103 (z_ks13 _ (fun _ h => List.mem_cons_of_mem _ h) _ _ _ _ (fun j r h _ => by cases h)) (fun j h => by cases h) (fun _ _ => zs_K_p) z_phk (z_fil _ (fun _ h => absurd h List.not_mem_nil)) zxk317
def zxs318 : List (Nat × zSig) := [(103, zxg317), (103, zxg313)]
def zxe318 : zCe := ((z_KF13, z_KC13, z_KL13, z_KT13, [(5, 0), (16, 1)], [], [], none), [], 4000)
theorem zxk318 : z_chk z_TYs z_PH z_cl z_FT z_MT zxs318 [] z_PS zxm156 zxg318 zxe318 = true := by decide +kernel
theorem zxo318 : z_OK z_TB z_cl z_FT z_TYs z_PH z_KX zxm156.1 zxm156.2.1 zxm156.2.2.1 zxm156.2.2.2.1 zxg318 := z_meth (mm := zxm156) (ce := zxe318) (SG := zxs318) (RO := []) (PHS := z_PS) (MT := z_MT) zxp156 (z_ks13 _ (fun _ h => List.mem_cons_of_mem _ h) _ _ _ _ (fun j r h _ => by cases h)) (fun j h => by cases h) (fun _ _ => zs_K_p) z_phk (z_fil _ (List.forall_mem_cons.mpr ⟨z_lnk zxt103 zxo317, List.forall_mem_cons.mpr ⟨z_lnk zxt103 zxo313, fun _ h => absurd h List.not_mem_nil⟩⟩)) zxk318
def zxs319 : List (Nat × zSig) := [(103, zxg317), (103, zxg315)]
def zxe319 : zCe := ((z_KF13, z_KC13, z_KL13, z_KT13, [(5, 0), (16, 1)], [], [], none), [], 4000)
theorem zxk319 : z_chk z_TYs z_PH z_cl z_FT z_MT zxs319 [] z_PS zxm156 zxg319 zxe319 = true := by decide +kernel
theorem zxo319 : z_OK z_TB z_cl z_FT z_TYs z_PH z_KX zxm156.1 zxm156.2.1 zxm156.2.2.1 zxm156.2.2.2.1 zxg319 := z_meth (mm := zxm156) (ce := zxe319) (SG := zxs319) (RO := []) (PHS := z_PS) (MT := z_MT) zxp156 (z_ks13 _ (fun _ h => List.mem_cons_of_mem _ h) _ _ _ _ (fun j r h _ => by cases h)) (fun j h => by cases h) (fun _ _ => zs_K_p) z_phk (z_fil _ (List.forall_mem_cons.mpr ⟨z_lnk zxt103 zxo317, List.forall_mem_cons.mpr ⟨z_lnk zxt103 zxo315, fun _ h => absurd h List.not_mem_nil⟩⟩)) zxk319
def zxs320 : List (Nat × zSig) := []
def zxe320 : zCe := ((z_KF13, z_KC13, z_KL13, z_KT13, [], [], [], none), [], 4000)
theorem zxk320 : z_chk z_TYs z_PH z_cl z_FT z_MT zxs320 [] z_PS zxm103 zxg320 zxe320 = true := by decide +kernel
theorem zxo320 : z_OK z_TB z_cl z_FT z_TYs z_PH z_KX zxm103.1 zxm103.2.1 zxm103.2.2.1 zxm103.2.2.2.1 zxg320 := z_meth (mm := zxm103) (ce := zxe320) (SG := zxs320) (RO := []) (PHS := z_PS) (MT := z_MT) zxp103 (z_ks13 _ (fun _ h => List.mem_cons_of_mem _ h) _ _ _ _ (fun j r h _ => by cases h)) (fun j h => by cases h) (fun _ _ => zs_K_p) z_phk (z_fil _ (fun _ h => absurd h List.not_mem_nil)) zxk320
def zxs321 : List (Nat × zSig) := [(103, zxg317), (103, zxg320)]
def zxe321 : zCe := ((z_KF13, z_KC13, z_KL13, z_KT13, [(5, 0), (16, 0), (25, 1)], [], [], none), [], 4000)
theorem zxk321 : z_chk z_TYs z_PH z_cl z_FT z_MT zxs321 [] z_PS zxm156 zxg321 zxe321 = true := by decide +kernel
theorem zxo321 : z_OK z_TB z_cl z_FT z_TYs z_PH z_KX zxm156.1 zxm156.2.1 zxm156.2.2.1 zxm156.2.2.2.1 zxg321 := z_meth (mm := zxm156) (ce := zxe321) (SG := zxs321) (RO := []) (PHS := z_PS) (MT := z_MT) zxp156 (z_ks13 _ (fun _ h => List.mem_cons_of_mem _ h) _ _ _ _ (fun j r h _ => by cases h)) (fun j h => by cases h) (fun _ _ => zs_K_p) z_phk (z_fil _ (List.forall_mem_cons.mpr ⟨z_lnk zxt103 zxo317, List.forall_mem_cons.mpr ⟨z_lnk zxt103 zxo320, fun _ h => absurd h List.not_mem_nil⟩⟩)) zxk321
def zxs322 : List (Nat × zSig) := [(103, zxg317), (103, zxg202)]
def zxe322 : zCe := ((z_KF13, z_KC13, z_KL13, z_KT13, [(5, 0), (16, 0), (25, 1)], [], [], none), [], 4000)
theorem zxk322 : z_chk z_TYs z_PH z_cl z_FT z_MT zxs322 [] z_PS zxm156 zxg322 zxe322 = true := by decide +kernel
theorem zxo322 : z_OK z_TB z_cl z_FT z_TYs z_PH z_KX zxm156.1 zxm156.2.1 zxm156.2.2.1 zxm156.2.2.2.1 zxg322 := z_meth (mm := zxm156) (ce := zxe322) (SG := zxs322) (RO := []) (PHS := z_PS) (MT := z_MT) zxp156 (z_ks13 _ (fun _ h => List.mem_cons_of_mem _ h) _ _ _ _ (fun j r h _ => by cases h)) (fun j h => by cases h) (fun _ _ => zs_K_p) z_phk (z_fil _ (List.forall_mem_cons.mpr ⟨z_lnk zxt103 zxo317, List.forall_mem_cons.mpr ⟨z_lnk zxt103 zxo202, fun _ h => absurd h List.not_mem_nil⟩⟩)) zxk322
def zxs323 : List (Nat × zSig) := [(126, zxg161)]
def zxe323 : zCe := ((z_KF13, z_KC13, z_KL13, z_KT13, [(2, 0), (42, 0)], [], [], none), [(13, ([(0, 0), (2, 2), (3, 3), (4, 4)], [], 5, [(0, .inr (.inl 128)), (1, .inl (.ofNat 0, .ofNat 287)), (2, .inl (.ofNat 0, .ofNat 287)), (3, .inl (.ofNat 0, .ofNat 0)), (4, .inl (.ofNat 0, .ofNat 24))], [], [], [], [], (0, 0), 0), [(0, 0, 0, 0), (0, 1, 0, 0), (0, 2, 0, 0), (1, 3, 0, 0), (1, 4, 0, 0)], (.ofNat 104, [(4, .negSucc 1)])), (58, ([(0, 0), (4, 3)], [], 4, [(0, .inr (.inl 128)), (1, .inl (.ofNat 0, .ofNat 287)), (2, .inl (.ofNat 0, .ofNat 287)), (3, .inl (.ofNat 0, .ofNat 24))], [], [], [], [], (0, 0), 0), [(0, 0, 0, 0), (0, 1, 0, 0), (0, 2, 0, 0), (1, 4, 0, 0)], (.ofNat 50, [(3, .negSucc 1)]))], 4000)
theorem zxk323 : z_chk z_TYs z_PH z_cl z_FT z_MT zxs323 [] z_PS zxm157 zxg323 zxe323 = true := by decide +kernel
theorem zxo323 : z_OK z_TB z_cl z_FT z_TYs z_PH z_KX zxm157.1 zxm157.2.1 zxm157.2.2.1 zxm157.2.2.2.1 zxg323 := z_meth (mm := zxm157) (ce := zxe323) (SG := zxs323) (RO := []) (PHS := z_PS) (MT := z_MT) zxp157 (z_ks13 _ (fun _ h => List.mem_cons_of_mem _ h) _ _ _ _ (fun j r h _ => by cases h)) (fun j h => by cases h) (fun _ _ => zs_K_p) z_phk (z_fil _ (List.forall_mem_cons.mpr ⟨z_lnk zxt126 zxo161, fun _ h => absurd h List.not_mem_nil⟩)) zxk323
def zxs324 : List (Nat × zSig) := [(103, zxg317), (103, zxg204), (157, zxg323), (131, zxg168)]
def zxe324 : zCe := ((z_KF13, z_KC13, z_KL13, z_KT13, [(5, 0), (16, 0), (25, 1), (47, 2), (77, 3)], [], [], none), [], 4000)
theorem zxk324 : z_chk z_TYs z_PH z_cl z_FT z_MT zxs324 [] z_PS zxm156 zxg324 zxe324 = true := by decide +kernel
theorem zxo324 : z_OK z_TB z_cl z_FT z_TYs z_PH z_KX zxm156.1 zxm156.2.1 zxm156.2.2.1 zxm156.2.2.2.1 zxg324 := z_meth (mm := zxm156) (ce := zxe324) (SG := zxs324) (RO := []) (PHS := z_PS) (MT := z_MT) zxp156 (z_ks13 _ (fun _ h => List.mem_cons_of_mem _ h) _ _ _ _ (fun j r h _ => by cases h)) (fun j h => by cases h) (fun _ _ => zs_K_p) z_phk (z_fil _ (List.forall_mem_cons.mpr ⟨z_lnk zxt103 zxo317, List.forall_mem_cons.mpr ⟨z_lnk zxt103 zxo204, List.forall_mem_cons.mpr ⟨z_lnk zxt157 zxo323, List.forall_mem_cons.mpr ⟨z_lnk zxt131 zxo168, fun _ h => absurd h List.not_mem_nil⟩⟩⟩⟩)) zxk324
def zxs325 : List (Nat × zSig) := [(14, zxg20), (13, zxg187)]
def zxe325 : zCe := ((z_KF0, z_KC0, z_KL0, z_KT0, [(2, 0), (11, 1)], [], [], none), [], 4000)
theorem zxk325 : z_chk z_TYs z_PH z_cl z_FT z_MT zxs325 [] z_PS zxm89 zxg325 zxe325 = true := by decide +kernel
theorem zxo325 : z_OK z_TB z_cl z_FT z_TYs z_PH z_KX zxm89.1 zxm89.2.1 zxm89.2.2.1 zxm89.2.2.2.1 zxg325 := z_meth (mm := zxm89) (ce := zxe325) (SG := zxs325) (RO := []) (PHS := z_PS) (MT := z_MT) zxp89 (z_ks0 _ (fun _ h => List.mem_cons_of_mem _ h) _ _ _ _ (fun j r h _ => by cases h)) (fun j h => by cases h) (fun _ _ => zs_K_p) z_phk (z_fil _ (List.forall_mem_cons.mpr ⟨z_lnk zxt14 zxo20, List.forall_mem_cons.mpr ⟨z_lnk zxt13 zxo187, fun _ h => absurd h List.not_mem_nil⟩⟩)) zxk325
def zxs326 : List (Nat × zSig) := [(104, zxg143), (103, zxg189)]
def zxe326 : zCe := ((z_KF13, z_KC13, z_KL13, z_KT13, [(2, 0), (11, 1)], [], [], none), [], 4000)
theorem zxk326 : z_chk z_TYs z_PH z_cl z_FT z_MT zxs326 [] z_PS zxm158 zxg326 zxe326 = true := by decide +kernel
theorem zxo326 : z_OK z_TB z_cl z_FT z_TYs z_PH z_KX zxm158.1 zxm158.2.1 zxm158.2.2.1 zxm158.2.2.2.1 zxg326 := z_meth (mm := zxm158) (ce := zxe326) (SG := zxs326) (RO := []) (PHS := z_PS) (MT := z_MT) zxp158 (z_ks13 _ (fun _ h => List.mem_cons_of_mem _ h) _ _ _ _ (fun j r h _ => by cases h)) (fun j h => by cases h) (fun _ _ => zs_K_p) z_phk (z_fil _ (List.forall_mem_cons.mpr ⟨z_lnk zxt104 zxo143, List.forall_mem_cons.mpr ⟨z_lnk zxt103 zxo189, fun _ h => absurd h List.not_mem_nil⟩⟩)) zxk326
def zxs327 : List (Nat × zSig) := [(13, zxg210), (13, zxg187)]
def zxe327 : zCe := ((z_KF0, z_KC0, z_KL0, z_KT0, [(4, 0), (13, 1)], [], [], none), [], 4000)
theorem zxk327 : z_chk z_TYs z_PH z_cl z_FT z_MT zxs327 [] z_PS zxm90 zxg327 zxe327 = true := by decide +kernel
theorem zxo327 : z_OK z_TB z_cl z_FT z_TYs z_PH z_KX zxm90.1 zxm90.2.1 zxm90.2.2.1 zxm90.2.2.2.1 zxg327 := z_meth (mm := zxm90) (ce := zxe327) (SG := zxs327) (RO := []) (PHS := z_PS) (MT := z_MT) zxp90 (z_ks0 _ (fun _ h => List.mem_cons_of_mem _ h) _ _ _ _ (fun j r h _ => by cases h)) (fun j h => by cases h) (fun _ _ => zs_K_p) z_phk (z_fil _ (List.forall_mem_cons.mpr ⟨z_lnk zxt13 zxo210, List.forall_mem_cons.mpr ⟨z_lnk zxt13 zxo187, fun _ h => absurd h List.not_mem_nil⟩⟩)) zxk327
def zxs328 : List (Nat × zSig) := [(103, zxg214), (103, zxg189)]
def zxe328 : zCe := ((z_KF13, z_KC13, z_KL13, z_KT13, [(4, 0), (13, 1)], [], [], none), [], 4000)
theorem zxk328 : z_chk z_TYs z_PH z_cl z_FT z_MT zxs328 [] z_PS zxm159 zxg328 zxe328 = true := by decide +kernel
theorem zxo328 : z_OK z_TB z_cl z_FT z_TYs z_PH z_KX zxm159.1 zxm159.2.1 zxm159.2.2.1 zxm159.2.2.2.1 zxg328 := z_meth (mm := zxm159) (ce := zxe328) (SG := zxs328) (RO := []) (PHS := z_PS) (MT := z_MT) zxp159 (z_ks13 _ (fun _ h => List.mem_cons_of_mem _ h) _ _ _ _ (fun j r h _ => by cases h)) (fun j h => by cases h) (fun _ _ => zs_K_p) z_phk (z_fil _ (List.forall_mem_cons.mpr ⟨z_lnk zxt103 zxo214, List.forall_mem_cons.mpr ⟨z_lnk zxt103 zxo189, fun _ h => absurd h List.not_mem_nil⟩⟩)) zxk328
def zxs329 : List (Nat × zSig) := [(14, zxg20), (16, zxg131)]
def zxe329 : zCe := ((z_KF0, z_KC0, z_KL0, z_KT0, [(2, 0), (28, 1)], [], [], none), [(15, ([(0, 0), (1, 1), (2, 2), (3, 3), (4, 4)], [], 5, [(0, .inr (.inl 86)), (1, .inl (.ofNat 0, .ofNat 23)), (2, .inl (.ofNat 0, .ofNat 11)), (3, .inl (.ofNat 0, .ofNat 0)), (4, .inl (.ofNat 0, .ofNat 24))], [], [], [], [], (0, 0), 0), [(0, 0, 0, 0), (0, 1, 0, 0), (0, 2, 0, 0), (1, 3, 0, 0), (1, 4, 0, 0)], (.ofNat 50, [(4, .negSucc 1)]))], 4000)
theorem zxk329 : z_chk z_TYs z_PH z_cl z_FT z_MT zxs329 [] z_PS zxm91 zxg329 zxe329 = true := by decide +kernel
theorem zxo329 : z_OK z_TB z_cl z_FT z_TYs z_PH z_KX zxm91.1 zxm91.2.1 zxm91.2.2.1 zxm91.2.2.2.1 zxg329 := z_meth (mm := zxm91) (ce := zxe329) (SG := zxs329) (RO := []) (PHS := z_PS) (MT := z_MT) zxp91 (z_ks0 _ (fun _ h => List.mem_cons_of_mem _ h) _ _ _ _ (fun j r h _ => by cases h)) (fun j h => by cases h) (fun _ _ => zs_K_p) z_phk (z_fil _ (List.forall_mem_cons.mpr ⟨z_lnk zxt14 zxo20, List.forall_mem_cons.mpr ⟨z_lnk zxt16 zxo131, fun _ h => absurd h List.not_mem_nil⟩⟩)) zxk329
def zxs330 : List (Nat × zSig) := [(104, zxg28)]
def zxe330 : zCe := ((z_KF13, z_KC13, z_KL13, z_KT13, [(2, 0)], [], [], none), [], 4000)
theorem zxk330 : z_chk z_TYs z_PH z_cl z_FT z_MT zxs330 [] z_PS zxm160 zxg330 zxe330 = true := by decide +kernel
theorem zxo330 : z_OK z_TB z_cl z_FT z_TYs z_PH z_KX zxm160.1 zxm160.2.1 zxm160.2.2.1 zxm160.2.2.2.1 zxg330 := z_meth (mm := zxm160) (ce := zxe330) (SG := zxs330) (RO := []) (PHS := z_PS) (MT := z_MT) zxp160 (z_ks13 _ (fun _ h => List.mem_cons_of_mem _ h) _ _ _ _ (fun j r h _ => by cases h)) (fun j h => by cases h) (fun _ _ => zs_K_p) z_phk (z_fil _ (List.forall_mem_cons.mpr ⟨z_lnk zxt104 zxo28, fun _ h => absurd h List.not_mem_nil⟩)) zxk330
def zxs331 : List (Nat × zSig) := [(104, zxg30)]
def zxe331 : zCe := ((z_KF13, z_KC13, z_KL13, z_KT13, [(2, 0)], [], [], none), [], 4000)
theorem zxk331 : z_chk z_TYs z_PH z_cl z_FT z_MT zxs331 [] z_PS zxm160 zxg331 zxe331 = true := by decide +kernel
theorem zxo331 : z_OK z_TB z_cl z_FT z_TYs z_PH z_KX zxm160.1 zxm160.2.1 zxm160.2.2.1 zxm160.2.2.2.1 zxg331 := z_meth (mm := zxm160) (ce := zxe331) (SG := zxs331) (RO := []) (PHS := z_PS) (MT := z_MT) zxp160 (z_ks13 _ (fun _ h => List.mem_cons_of_mem _ h) _ _ _ _ (fun j r h _ => by cases h)) (fun j h => by cases h) (fun _ _ => zs_K_p) z_phk (z_fil _ (List.forall_mem_cons.mpr ⟨z_lnk zxt104 zxo30, fun _ h => absurd h List.not_mem_nil⟩)) zxk331
def zxs332 : List (Nat × zSig) := [(104, zxg32)]
def zxe332 : zCe := ((z_KF13, z_KC13, z_KL13, z_KT13, [(2, 0)], [], [], none), [], 4000)
theorem zxk332 : z_chk z_TYs z_PH z_cl z_FT z_MT zxs332 [] z_PS zxm160 zxg332 zxe332 = true := by decide +kernel
theorem zxo332 : z_OK z_TB z_cl z_FT z_TYs z_PH z_KX zxm160.1 zxm160.2.1 zxm160.2.2.1 zxm160.2.2.2.1 zxg332 := z_meth (mm := zxm160) (ce := zxe332) (SG := zxs332) (RO := []) (PHS := z_PS) (MT := z_MT) zxp160 (z_ks13 _ (fun _ h => List.mem_cons_of_mem _ h) _ _ _ _ (fun j r h _ => by cases h)) (fun j h => by cases h) (fun _ _ => zs_K_p) z_phk (z_fil _ (List.forall_mem_cons.mpr ⟨z_lnk zxt104 zxo32, fun _ h => absurd h List.not_mem_nil⟩)) zxk332
def zxs333 : List (Nat × zSig) := [(104, zxg34)]
def zxe333 : zCe := ((z_KF13, z_KC13, z_KL13, z_KT13, [(2, 0)], [], [], none), [], 4000)
theorem zxk333 : z_chk z_TYs z_PH z_cl z_FT z_MT zxs333 [] z_PS zxm160 zxg333 zxe333 = true := by decide +kernel
theorem zxo333 : z_OK z_TB z_cl z_FT z_TYs z_PH z_KX zxm160.1 zxm160.2.1 zxm160.2.2.1 zxm160.2.2.2.1 zxg333 := z_meth (mm := zxm160) (ce := zxe333) (SG := zxs333) (RO := []) (PHS := z_PS) (MT := z_MT) zxp160 (z_ks13 _ (fun _ h => List.mem_cons_of_mem _ h) _ _ _ _ (fun j r h _ => by cases h)) (fun j h => by cases h) (fun _ _ => zs_K_p) z_phk (z_fil _ (List.forall_mem_cons.mpr ⟨z_lnk zxt104 zxo34, fun _ h => absurd h List.not_mem_nil⟩)) zxk333
def zxs334 : List (Nat × zSig) := [(104, zxg36), (106, zxg139)]
def zxe334 : zCe := ((z_KF13, z_KC13, z_KL13, z_KT13, [(2, 0), (25, 1)], [], [], none), [(15, ([(0, 0), (1, 1), (2, 2), (3, 3), (4, 4)], [], 5, [(0, .inr (.inl 128)), (1, .inl (.ofNat 0, .ofNat 23)), (2, .inl (.ofNat 0, .ofNat 11)), (3, .inl (.ofNat 0, .ofNat 0)), (4, .inl (.ofNat 0, .ofNat 24))], [], [], [], [], (0, 0), 0), [(0, 0, 0, 0), (0, 1, 0, 0), (0, 2, 0, 0), (1, 3, 0, 0), (1, 4, 0, 0)], (.ofNat 50, [(4, .negSucc 1)]))], 4000)
theorem zxk334 : z_chk z_TYs z_PH z_cl z_FT z_MT zxs334 [] z_PS zxm160 zxg334 zxe334 = true := by decide +kernel
theorem zxo334 : z_OK z_TB z_cl z_FT z_TYs z_PH z_KX zxm160.1 zxm160.2.1 zxm160.2.2.1 zxm160.2.2.2.1 zxg334 := z_meth (mm := zxm160) (ce := zxe334) (SG := zxs334) (RO := []) (PHS := z_PS) (MT := z_MT) zxp160 (z_ks13 _ (fun _ h => List.mem_cons_of_mem _ h) _ _ _ _ (fun j r h _ => by cases h)) (fun j h => by cases h) (fun _ _ => zs_K_p) z_phk (z_fil _ (List.forall_mem_cons.mpr ⟨z_lnk zxt104 zxo36, List.forall_mem_cons.mpr ⟨z_lnk zxt106 zxo139, fun _ h => absurd h List.not_mem_nil⟩⟩)) zxk334
def zxs335 : List (Nat × zSig) := []
def zxe335 : zCe := ((z_KF16, z_KC16, z_KL16, z_KT16, [], [], [], none), [(5, ([(0, 0), (1, 1), (2, 2), (3, 3)], [], 4, [(0, .inr (.inl 50)), (1, .inl (.ofNat 0, .ofNat 0)), (2, .inl (.ofNat 0, .ofNat 24)), (3, .inl (.ofNat 24, .ofNat 24))], [], [], [], [], (0, 0), 0), [(0, 0, 0, 0), (0, 1, 0, 0), (1, 2, 0, 0), (1, 3, 0, 0)], (.ofNat 50, [(2, .negSucc 1)]))], 4000)
theorem zxk335 : z_chk z_TYs z_PH z_cl z_FT z_MT zxs335 [] z_PS zxm37 zxg335 zxe335 = true := by decide +kernel
theorem zxo335 : z_OK z_TB z_cl z_FT z_TYs z_PH z_KX zxm37.1 zxm37.2.1 zxm37.2.2.1 zxm37.2.2.2.1 zxg335 := z_meth (mm := zxm37) (ce := zxe335) (SG := zxs335) (RO := []) (PHS := z_PS) (MT := z_MT) zxp37 (z_ks16 _ (fun _ h => List.mem_cons_of_mem _ h) _ _ _ _ (fun j r h _ => by cases h)) (fun j h => by cases h) (fun _ _ => zs_K_p) z_phk (z_fil _ (fun _ h => absurd h List.not_mem_nil)) zxk335
def zxs336 : List (Nat × zSig) := [(37, zxg335)]
def zxe336 : zCe := ((z_KF11, z_KC11, z_KL11, z_KT11, [(20, 0)], [], [], none), [], 4000)
theorem zxk336 : z_chk z_TYs z_PH z_cl z_FT z_MT zxs336 [] z_PS zxm40 zxg336 zxe336 = true := by decide +kernel
theorem zxo336 : z_OK z_TB z_cl z_FT z_TYs z_PH z_KX zxm40.1 zxm40.2.1 zxm40.2.2.1 zxm40.2.2.2.1 zxg336 := z_meth (mm := zxm40) (ce := zxe336) (SG := zxs336) (RO := []) (PHS := z_PS) (MT := z_MT) zxp40 (z_ks11 _ (fun _ h => List.mem_cons_of_mem _ h) _ _ _ _ (fun j r h _ => by cases h)) (fun j h => by cases h) (fun _ _ => zs_K_p) z_phk (z_fil _ (List.forall_mem_cons.mpr ⟨z_lnk zxt37 zxo335, fun _ h => absurd h List.not_mem_nil⟩)) zxk336
def zxs337 : List (Nat × zSig) := []
def zxe337 : zCe := ((z_KF16, z_KC16, z_KL16, z_KT16, [], [], [], none), [(5, ([(0, 0), (1, 1), (2, 2), (3, 3)], [], 4, [(0, .inr (.inl 157)), (1, .inl (.ofNat 0, .ofNat 0)), (2, .inl (.ofNat 0, .ofNat 13)), (3, .inl (.ofNat 13, .ofNat 13))], [], [], [], [], (0, 0), 0), [(0, 0, 0, 0), (0, 1, 0, 0), (1, 2, 0, 0), (1, 3, 0, 0)], (.ofNat 28, [(2, .negSucc 1)]))], 4000)
theorem zxk337 : z_chk z_TYs z_PH z_cl z_FT z_MT zxs337 [] z_PS zxm37 zxg337 zxe337 = true := by decide +kernel
theorem zxo337 : z_OK z_TB z_cl z_FT z_TYs z_PH z_KX zxm37.1 zxm37.2.1 zxm37.2.2.1 zxm37.2.2.2.1 zxg337 := z_meth (mm := zxm37) (ce := zxe337) (SG := zxs337) (RO := []) (PHS := z_PS) (MT := z_MT) zxp37 (z_ks16 _ (fun _ h => List.mem_cons_of_mem _ h) _ _ _ _ (fun j r h _ => by cases h)) (fun j h => by cases h) (fun _ _ => zs_K_p) z_phk (z_fil _ (fun _ h => absurd h List.not_mem_nil)) zxk337
def zxs338 : List (Nat × zSig) := [(37, zxg337)]
def zxe338 : zCe := ((z_KF2, z_KC2, z_KL2, z_KT2, [(5, 0)], [], [], none), [], 4000)
theorem zxk338 : z_chk z_TYs z_PH z_cl z_FT z_MT zxs338 [] z_PS zxm43 zxg338 zxe338 = true := by decide +kernel
theorem zxo338 : z_OK z_TB z_cl z_FT z_TYs z_PH z_KX zxm43.1 zxm43.2.1 zxm43.2.2.1 zxm43.2.2.2.1 zxg338 := z_meth (mm := zxm43) (ce := zxe338) (SG := zxs338) (RO := []) (PHS := z_PS) (MT := z_MT) zxp43 (z_ks2 _ (fun _ h => List.mem_cons_of_mem _ h) _ _ _ _ (fun j r h _ => by cases h)) (fun j h => by cases h) (fun _ _ => zs_K_p) z_phk (z_fil _ (List.forall_mem_cons.mpr ⟨z_lnk zxt37 zxo337, fun _ h => absurd h List.not_mem_nil⟩)) zxk338
def zxs339 : List (Nat × zSig) := []
def zxe339 : zCe := ((z_KF2, z_KC2, z_KL2, z_KT2, [], [], [], none), [], 4000)
theorem zxk339 : z_chk z_TYs z_PH z_cl z_FT z_MT zxs339 [] z_PS zxm44 zxg339 zxe339 = true := by decide +kernel
theorem zxo339 : z_OK z_TB z_cl z_FT z_TYs z_PH z_KX zxm44.1 zxm44.2.1 zxm44.2.2.1 zxm44.2.2.2.1 zxg339 := z_meth (mm := zxm44) (ce := zxe339) (SG := zxs339) (RO := []) (PHS := z_PS) (MT := z_MT) zxp44 (z_ks2 _ (fun _ h => List.mem_cons_of_mem _ h) _ _ _ _ (fun j r h _ => by cases h)) (fun j h => by cases h) (fun _ _ => zs_K_p) z_phk (z_fil _ (fun _ h => absurd h List.not_mem_nil)) zxk339
def zxs340 : List (Nat × zSig) := [(43, zxg338), (44, zxg339)]
def zxe340 : zCe := ((z_KF11, z_KC11, z_KL11, z_KT11, [(14, 0), (25, 1)], [], [(2, 1, 3, .ofNat 0)], none), [], 4000)
theorem zxk340 : z_chk z_TYs z_PH z_cl z_FT z_MT zxs340 [] z_PS zxm42 zxg340 zxe340 = true := by decide +kernel
theorem zxo340 : z_OK z_TB z_cl z_FT z_TYs z_PH z_KX zxm42.1 zxm42.2.1 zxm42.2.2.1 zxm42.2.2.2.1 zxg340 := z_meth (mm := zxm42) (ce := zxe340) (SG := zxs340) (RO := []) (PHS := z_PS) (MT := z_MT) zxp42 (z_ks11 _ (fun _ h => List.mem_cons_of_mem _ h) _ _ _ _ (fun j r h _ => by cases h)) (fun j h => by cases h) (fun _ _ => zs_K_p) z_phk (z_fil _ (List.forall_mem_cons.mpr ⟨z_lnk zxt43 zxo338, List.forall_mem_cons.mpr ⟨z_lnk zxt44 zxo339, fun _ h => absurd h List.not_mem_nil⟩⟩)) zxk340
def zxs341 : List (Nat × zSig) := []
def zxe341 : zCe := ((z_KF8, z_KC8, z_KL8, z_KT8, [], [], [], none), [], 4000)
theorem zxk341 : z_chk z_TYs z_PH z_cl z_FT z_MT zxs341 [] z_PS zxm16 zxg341 zxe341 = true := by decide +kernel
theorem zxo341 : z_OK z_TB z_cl z_FT z_TYs z_PH z_KX zxm16.1 zxm16.2.1 zxm16.2.2.1 zxm16.2.2.2.1 zxg341 := z_meth (mm := zxm16) (ce := zxe341) (SG := zxs341) (RO := []) (PHS := z_PS) (MT := z_MT) zxp16 (z_ks8 _ (fun _ h => List.mem_cons_of_mem _ h) _ _ _ _ (fun j r h _ => by cases h)) (fun j h => by cases h) (fun _ _ => zs_K_p) z_phk (z_fil _ (fun _ h => absurd h List.not_mem_nil)) zxk341
def zxs342 : List (Nat × zSig) := [(16, zxg341)]
def zxe342 : zCe := ((z_KF11, z_KC11, z_KL11, z_KT11, [(5, 0)], [], [], none), [], 4000)
theorem zxk342 : z_chk z_TYs z_PH z_cl z_FT z_MT zxs342 [] z_PS zxm45 zxg342 zxe342 = true := by decide +kernel
theorem zxo342 : z_OK z_TB z_cl z_FT z_TYs z_PH z_KX zxm45.1 zxm45.2.1 zxm45.2.2.1 zxm45.2.2.2.1 zxg342 := z_meth (mm := zxm45) (ce := zxe342) (SG := zxs342) (RO := []) (PHS := z_PS) (MT := z_MT) zxp45 (z_ks11 _ (fun _ h => List.mem_cons_of_mem _ h) _ _ _ _ (fun j r h _ => by cases h)) (fun j h => by cases h) (fun _ _ => zs_K_p) z_phk (z_fil _ (List.forall_mem_cons.mpr ⟨z_lnk zxt16 zxo341, fun _ h => absurd h List.not_mem_nil⟩)) zxk342
def zxs343 : List (Nat × zSig) := [(42, zxg340), (45, zxg342)]
def zxe343 : zCe := ((z_KF11, z_KC11, z_KL11, z_KT11, [(3, 0), (21, 1)], [], [], none), [(13, ([(0, 0), (3, 3)], [], 4, [(0, .inr (.inl 173)), (1, .inl (.ofNat 0, .ofNat 23)), (2, .inl (.ofNat 0, .ofNat 11)), (3, .inl (.ofNat 0, .ofNat 24))], [], [], [], [], (0, 0), 3), [(0, 0, 0, 0), (0, 1, 0, 0), (0, 2, 0, 0), (1, 3, 0, 0)], (.ofNat 50, [(3, .negSucc 1)]))], 4000)
theorem zxk343 : z_chk z_TYs z_PH z_cl z_FT z_MT zxs343 [] z_PS zxm41 zxg343 zxe343 = true := by decide +kernel
theorem zxo343 : z_OK z_TB z_cl z_FT z_TYs z_PH z_KX zxm41.1 zxm41.2.1 zxm41.2.2.1 zxm41.2.2.2.1 zxg343 := z_meth (mm := zxm41) (ce := zxe343) (SG := zxs343) (RO := []) (PHS := z_PS) (MT := z_MT) zxp41 (z_ks11 _ (fun _ h => List.mem_cons_of_mem _ h) _ _ _ _ (fun j r h _ => by cases h)) (fun j h => by cases h) (fun _ _ => zs_K_p) z_phk (z_fil _ (List.forall_mem_cons.mpr ⟨z_lnk zxt42 zxo340, List.forall_mem_cons.mpr ⟨z_lnk zxt45 zxo342, fun _ h => absurd h List.not_mem_nil⟩⟩)) zxk343
def zxs344 : List (Nat × zSig) := []
def zxe344 : zCe := ((z_KF16, z_KC16, z_KL16, z_KT16, [], [], [], none), [(5, ([(0, 0), (1, 1), (2, 2), (3, 3)], [], 4, [(0, .inr (.inl 174)), (1, .inl (.ofNat 0, .ofNat 0)), (2, .inl (.ofNat 0, .ofNat 24)), (3, .inl (.ofNat 24, .ofNat 24))], [], [], [], [], (0, 0), 0), [(0, 0, 0, 0), (0, 1, 0, 0), (1, 2, 0, 0), (1, 3, 0, 0)], (.ofNat 50, [(2, .negSucc 1)]))], 4000)
theorem zxk344 : z_chk z_TYs z_PH z_cl z_FT z_MT zxs344 [] z_PS zxm37 zxg344 zxe344 = true := by decide +kernel
theorem zxo344 : z_OK z_TB z_cl z_FT z_TYs z_PH z_KX zxm37.1 zxm37.2.1 zxm37.2.2.1 zxm37.2.2.2.1 zxg344 := z_meth (mm := zxm37) (ce := zxe344) (SG := zxs344) (RO := []) (PHS := z_PS) (MT := z_MT) zxp37 (z_ks16 _ (fun _ h => List.mem_cons_of_mem _ h) _ _ _ _ (fun j r h _ => by cases h)) (fun j h => by cases h) (fun _ _ => zs_K_p) z_phk (z_fil _ (fun _ h => absurd h List.not_mem_nil)) zxk344
def zxs345 : List (Nat × zSig) := [(37, zxg344)]
def zxe345 : zCe := ((z_KF11, z_KC11, z_KL11, z_KT11, [(5, 0)], [], [], none), [], 4000)
theorem zxk345 : z_chk z_TYs z_PH z_cl z_FT z_MT zxs345 [] z_PS zxm48 zxg345 zxe345 = true := by decide +kernel
theorem zxo345 : z_OK z_TB z_cl z_FT z_TYs z_PH z_KX zxm48.1 zxm48.2.1 zxm48.2.2.1 zxm48.2.2.2.1 zxg345 := z_meth (mm := zxm48) (ce := zxe345) (SG := zxs345) (RO := []) (PHS := z_PS) (MT := z_MT) zxp48 (z_ks11 _ (fun _ h => List.mem_cons_of_mem _ h) _ _ _ _ (fun j r h _ => by cases h)) (fun j h => by cases h) (fun _ _ => zs_K_p) z_phk (z_fil _ (List.forall_mem_cons.mpr ⟨z_lnk zxt37 zxo344, fun _ h => absurd h List.not_mem_nil⟩)) zxk345
