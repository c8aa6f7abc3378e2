/-! Certificates. -/
def zxs366 : List (Nat × zSig) := []
def zxe366 : zCe := ((z_KF0, z_KC0, z_KL0, z_KT0, [], [], [], none), [], 4000)
theorem zxk366 : z_chk z_TYs z_PH z_cl z_FT z_MT zxs366 [] z_PS zxm15 zxg366 zxe366 = true := by decide +kernel
theorem zxo366 : z_OK z_TB z_cl z_FT z_TYs z_PH z_KX zxm15.1 zxm15.2.1 zxm15.2.2.1 zxm15.2.2.2.1 zxg366 := z_meth (mm := zxm15) (ce := zxe366) (SG := zxs366) (RO := []) (PHS := z_PS) (MT := z_MT) zxp15 (z_ks0 _ (fun _ h => List.mem_cons_of_mem _ h) _ _ _ _ (fun j r h _ => by cases h)) (fun j h => by cases h) (fun _ _ => zs_KX_p) z_phk (z_fil _ (fun _ h => absurd h List.not_mem_nil)) zxk366
def zxs367 : List (Nat × zSig) := [(102, zxg120), (197, zxg365), (15, zxg366), (26, zxg33)]
def zxe367 : zCe := ((z_KF0, z_KC0, z_KL0, z_KT0, [(91, 0), (158, 1), (167, 2), (181, 3)], [], [], none), [], 4000)
theorem zxk367 : z_chk z_TYs z_PH z_cl z_FT z_MT zxs367 [] z_PS zxm196 zxg367 zxe367 = true := by decide +kernel
theorem zxo367 : z_OK z_TB z_cl z_FT z_TYs z_PH z_KX zxm196.1 zxm196.2.1 zxm196.2.2.1 zxm196.2.2.2.1 zxg367 := z_meth (mm := zxm196) (ce := zxe367) (SG := zxs367) (RO := []) (PHS := z_PS) (MT := z_MT) zxp196 (z_ks0 _ (fun _ h => List.mem_cons_of_mem _ h) _ _ _ _ (fun j r h _ => by cases h)) (fun j h => by cases h) (fun _ _ => zs_KX_p) z_phk (z_fil _ (List.forall_mem_cons.mpr ⟨z_lnk zxt102 zxo120, List.forall_mem_cons.mpr ⟨z_lnk zxt197 zxo365, List.forall_mem_cons.mpr ⟨z_lnk zxt15 zxo366, List.forall_mem_cons.mpr ⟨z_lnk zxt26 zxo33, fun _ h => absurd h List.not_mem_nil⟩⟩⟩⟩)) zxk367
def zxs368 : List (Nat × zSig) := []
def zxe368 : zCe := ((z_KF13, z_KC13, z_KL13, z_KT13, [], [], [], none), [(4, ([(0, 0), (1, 1), (2, 2)], [], 3, [(0, .inr (.inl 199)), (1, .inl (.negSucc 2147483647, .ofNat 2147483647)), (2, .inl (.ofNat 0, .ofNat 288))], [], [], [], [], (0, 0), 0), [(0, 0, 0, 0), (1, 1, 0, 0), (1, 2, 0, 0)], (.ofNat 578, [(2, .negSucc 1)]))], 4000)
theorem zxk368 : z_chk z_TYs z_PH z_cl z_FT z_MT zxs368 [] z_PS zxm324 zxg368 zxe368 = true := by decide +kernel
theorem zxo368 : z_OK z_TB z_cl z_FT z_TYs z_PH z_KX zxm324.1 zxm324.2.1 zxm324.2.2.1 zxm324.2.2.2.1 zxg368 := z_meth (mm := zxm324) (ce := zxe368) (SG := zxs368) (RO := []) (PHS := z_PS) (MT := z_MT) zxp324 (z_ks13 _ (fun _ h => List.mem_cons_of_mem _ h) _ _ _ _ (fun j r h _ => by cases h)) (fun j h => by cases h) (fun _ _ => zs_KX_p) z_phk (z_fil _ (fun _ h => absurd h List.not_mem_nil)) zxk368
def zxs369 : List (Nat × zSig) := []
def zxe369 : zCe := ((z_KF13, z_KC13, z_KL13, z_KT13, [], [], [], none), [], 4000)
theorem zxk369 : z_chk z_TYs z_PH z_cl z_FT z_MT zxs369 [] z_PS zxm200 zxg369 zxe369 = true := by decide +kernel
theorem zxo369 : z_OK z_TB z_cl z_FT z_TYs z_PH z_KX zxm200.1 zxm200.2.1 zxm200.2.2.1 zxm200.2.2.2.1 zxg369 := z_meth (mm := zxm200) (ce := zxe369) (SG := zxs369) (RO := []) (PHS := z_PS) (MT := z_MT) zxp200 (z_ks13 _ (fun _ h => List.mem_cons_of_mem _ h) _ _ _ _ (fun j r h _ => by cases h)) (fun j h => by cases h) (fun _ _ => zs_KX_p) z_phk (z_fil _ (fun _ h => absurd h List.not_mem_nil)) zxk369
def zxs370 : List (Nat × zSig) := [(324, zxg368), (200, zxg369), (210, zxg39)]
def zxe370 : zCe := ((z_KF13, z_KC13, z_KL13, z_KT13, [(149, 0), (158, 1), (169, 2)], [], [], none), [], 4000)
theorem zxk370 : z_chk z_TYs z_PH z_cl z_FT z_MT zxs370 [] z_PS zxm323 zxg370 zxe370 = true := by decide +kernel
theorem zxo370 : z_OK z_TB z_cl z_FT z_TYs z_PH z_KX zxm323.1 zxm323.2.1 zxm323.2.2.1 zxm323.2.2.2.1 zxg370 := z_meth (mm := zxm323) (ce := zxe370) (SG := zxs370) (RO := []) (PHS := z_PS) (MT := z_MT) zxp323 (z_ks13 _ (fun _ h => List.mem_cons_of_mem _ h) _ _ _ _ (fun j r h _ => by cases h)) (fun j h => by cases h) (fun _ _ => zs_KX_p) z_phk (z_fil _ (List.forall_mem_cons.mpr ⟨z_lnk zxt324 zxo368, List.forall_mem_cons.mpr ⟨z_lnk zxt200 zxo369, List.forall_mem_cons.mpr ⟨z_lnk zxt210 zxo39, fun _ h => absurd h List.not_mem_nil⟩⟩⟩)) zxk370
