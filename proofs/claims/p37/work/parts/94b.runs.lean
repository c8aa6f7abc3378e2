/-! Certificates. -/
def zxs19 : List (Nat × zSig) := []
def zxe19 : zCe := ((z_KF0, z_KC0, z_KL0, z_KT0, [], [], [], none), [], 4000)
theorem zxk19 : z_chk z_TYs z_PH z_cl z_FT z_MT zxs19 [] z_PS zxm15 zxg19 zxe19 = true := by decide +kernel
theorem zxo19 : z_OK z_TB z_cl z_FT z_TYs z_PH z_KX zxm15.1 zxm15.2.1 zxm15.2.2.1 zxm15.2.2.2.1 zxg19 := z_meth (mm := zxm15) (ce := zxe19) (SG := zxs19) (RO := []) (PHS := z_PS) (MT := z_MT) zxp15 (z_ks0 _ (fun _ h => List.mem_cons_of_mem _ h) _ _ _ _ (fun j r h _ => by cases h)) (fun j h => by cases h) (fun _ _ => zs_KX_p) z_phk (z_fil _ (fun _ h => absurd h List.not_mem_nil)) zxk19
def zxs20 : List (Nat × zSig) := [(15, zxg19)]
def zxe20 : zCe := ((z_KF0, z_KC0, z_KL0, z_KT0, [(4, 0)], [], [], none), [], 4000)
theorem zxk20 : z_chk z_TYs z_PH z_cl z_FT z_MT zxs20 [] z_PS zxm20 zxg20 zxe20 = true := by decide +kernel
theorem zxo20 : z_OK z_TB z_cl z_FT z_TYs z_PH z_KX zxm20.1 zxm20.2.1 zxm20.2.2.1 zxm20.2.2.2.1 zxg20 := z_meth (mm := zxm20) (ce := zxe20) (SG := zxs20) (RO := []) (PHS := z_PS) (MT := z_MT) zxp20 (z_ks0 _ (fun _ h => List.mem_cons_of_mem _ h) _ _ _ _ (fun j r h _ => by cases h)) (fun j h => by cases h) (fun _ _ => zs_KX_p) z_phk (z_fil _ (List.forall_mem_cons.mpr ⟨z_lnk zxt15 zxo19, fun _ h => absurd h List.not_mem_nil⟩)) zxk20
def zxs21 : List (Nat × zSig) := []
def zxe21 : zCe := ((z_KF13, z_KC13, z_KL13, z_KT13, [], [], [], none), [], 4000)
theorem zxk21 : z_chk z_TYs z_PH z_cl z_FT z_MT zxs21 [] z_PS zxm200 zxg21 zxe21 = true := by decide +kernel
theorem zxo21 : z_OK z_TB z_cl z_FT z_TYs z_PH z_KX zxm200.1 zxm200.2.1 zxm200.2.2.1 zxm200.2.2.2.1 zxg21 := z_meth (mm := zxm200) (ce := zxe21) (SG := zxs21) (RO := []) (PHS := z_PS) (MT := z_MT) zxp200 (z_ks13 _ (fun _ h => List.mem_cons_of_mem _ h) _ _ _ _ (fun j r h _ => by cases h)) (fun j h => by cases h) (fun _ _ => zs_KX_p) z_phk (z_fil _ (fun _ h => absurd h List.not_mem_nil)) zxk21
def zxs22 : List (Nat × zSig) := [(200, zxg21)]
def zxe22 : zCe := ((z_KF13, z_KC13, z_KL13, z_KT13, [(4, 0)], [], [], none), [], 4000)
theorem zxk22 : z_chk z_TYs z_PH z_cl z_FT z_MT zxs22 [] z_PS zxm206 zxg22 zxe22 = true := by decide +kernel
theorem zxo22 : z_OK z_TB z_cl z_FT z_TYs z_PH z_KX zxm206.1 zxm206.2.1 zxm206.2.2.1 zxm206.2.2.2.1 zxg22 := z_meth (mm := zxm206) (ce := zxe22) (SG := zxs22) (RO := []) (PHS := z_PS) (MT := z_MT) zxp206 (z_ks13 _ (fun _ h => List.mem_cons_of_mem _ h) _ _ _ _ (fun j r h _ => by cases h)) (fun j h => by cases h) (fun _ _ => zs_KX_p) z_phk (z_fil _ (List.forall_mem_cons.mpr ⟨z_lnk zxt200 zxo21, fun _ h => absurd h List.not_mem_nil⟩)) zxk22
def zxs23 : List (Nat × zSig) := []
def zxe23 : zCe := ((z_KF0, z_KC0, z_KL0, z_KT0, [], [], [], none), [], 4000)
theorem zxk23 : z_chk z_TYs z_PH z_cl z_FT z_MT zxs23 [] z_PS zxm15 zxg23 zxe23 = true := by decide +kernel
theorem zxo23 : z_OK z_TB z_cl z_FT z_TYs z_PH z_KX zxm15.1 zxm15.2.1 zxm15.2.2.1 zxm15.2.2.2.1 zxg23 := z_meth (mm := zxm15) (ce := zxe23) (SG := zxs23) (RO := []) (PHS := z_PS) (MT := z_MT) zxp15 (z_ks0 _ (fun _ h => List.mem_cons_of_mem _ h) _ _ _ _ (fun j r h _ => by cases h)) (fun j h => by cases h) (fun _ _ => zs_KX_p) z_phk (z_fil _ (fun _ h => absurd h List.not_mem_nil)) zxk23
def zxs24 : List (Nat × zSig) := [(15, zxg23)]
def zxe24 : zCe := ((z_KF0, z_KC0, z_KL0, z_KT0, [(4, 0)], [], [], none), [], 4000)
theorem zxk24 : z_chk z_TYs z_PH z_cl z_FT z_MT zxs24 [] z_PS zxm21 zxg24 zxe24 = true := by decide +kernel
theorem zxo24 : z_OK z_TB z_cl z_FT z_TYs z_PH z_KX zxm21.1 zxm21.2.1 zxm21.2.2.1 zxm21.2.2.2.1 zxg24 := z_meth (mm := zxm21) (ce := zxe24) (SG := zxs24) (RO := []) (PHS := z_PS) (MT := z_MT) zxp21 (z_ks0 _ (fun _ h => List.mem_cons_of_mem _ h) _ _ _ _ (fun j r h _ => by cases h)) (fun j h => by cases h) (fun _ _ => zs_KX_p) z_phk (z_fil _ (List.forall_mem_cons.mpr ⟨z_lnk zxt15 zxo23, fun _ h => absurd h List.not_mem_nil⟩)) zxk24
def zxs25 : List (Nat × zSig) := []
def zxe25 : zCe := ((z_KF13, z_KC13, z_KL13, z_KT13, [], [], [], none), [], 4000)
theorem zxk25 : z_chk z_TYs z_PH z_cl z_FT z_MT zxs25 [] z_PS zxm200 zxg25 zxe25 = true := by decide +kernel
theorem zxo25 : z_OK z_TB z_cl z_FT z_TYs z_PH z_KX zxm200.1 zxm200.2.1 zxm200.2.2.1 zxm200.2.2.2.1 zxg25 := z_meth (mm := zxm200) (ce := zxe25) (SG := zxs25) (RO := []) (PHS := z_PS) (MT := z_MT) zxp200 (z_ks13 _ (fun _ h => List.mem_cons_of_mem _ h) _ _ _ _ (fun j r h _ => by cases h)) (fun j h => by cases h) (fun _ _ => zs_KX_p) z_phk (z_fil _ (fun _ h => absurd h List.not_mem_nil)) zxk25
def zxs26 : List (Nat × zSig) := [(200, zxg25)]
def zxe26 : zCe := ((z_KF13, z_KC13, z_KL13, z_KT13, [(4, 0)], [], [], none), [], 4000)
theorem zxk26 : z_chk z_TYs z_PH z_cl z_FT z_MT zxs26 [] z_PS zxm207 zxg26 zxe26 = true := by decide +kernel
theorem zxo26 : z_OK z_TB z_cl z_FT z_TYs z_PH z_KX zxm207.1 zxm207.2.1 zxm207.2.2.1 zxm207.2.2.2.1 zxg26 := z_meth (mm := zxm207) (ce := zxe26) (SG := zxs26) (RO := []) (PHS := z_PS) (MT := z_MT) zxp207 (z_ks13 _ (fun _ h => List.mem_cons_of_mem _ h) _ _ _ _ (fun j r h _ => by cases h)) (fun j h => by cases h) (fun _ _ => zs_KX_p) z_phk (z_fil _ (List.forall_mem_cons.mpr ⟨z_lnk zxt200 zxo25, fun _ h => absurd h List.not_mem_nil⟩)) zxk26
def zxs27 : List (Nat × zSig) := []
def zxe27 : zCe := ((z_KF0, z_KC0, z_KL0, z_KT0, [], [], [], none), [], 4000)
theorem zxk27 : z_chk z_TYs z_PH z_cl z_FT z_MT zxs27 [] z_PS zxm15 zxg27 zxe27 = true := by decide +kernel
theorem zxo27 : z_OK z_TB z_cl z_FT z_TYs z_PH z_KX zxm15.1 zxm15.2.1 zxm15.2.2.1 zxm15.2.2.2.1 zxg27 := z_meth (mm := zxm15) (ce := zxe27) (SG := zxs27) (RO := []) (PHS := z_PS) (MT := z_MT) zxp15 (z_ks0 _ (fun _ h => List.mem_cons_of_mem _ h) _ _ _ _ (fun j r h _ => by cases h)) (fun j h => by cases h) (fun _ _ => zs_KX_p) z_phk (z_fil _ (fun _ h => absurd h List.not_mem_nil)) zxk27
def zxs28 : List (Nat × zSig) := [(15, zxg27)]
def zxe28 : zCe := ((z_KF0, z_KC0, z_KL0, z_KT0, [(4, 0), (14, 0)], [], [], none), [], 4000)
theorem zxk28 : z_chk z_TYs z_PH z_cl z_FT z_MT zxs28 [] z_PS zxm22 zxg28 zxe28 = true := by decide +kernel
theorem zxo28 : z_OK z_TB z_cl z_FT z_TYs z_PH z_KX zxm22.1 zxm22.2.1 zxm22.2.2.1 zxm22.2.2.2.1 zxg28 := z_meth (mm := zxm22) (ce := zxe28) (SG := zxs28) (RO := []) (PHS := z_PS) (MT := z_MT) zxp22 (z_ks0 _ (fun _ h => List.mem_cons_of_mem _ h) _ _ _ _ (fun j r h _ => by cases h)) (fun j h => by cases h) (fun _ _ => zs_KX_p) z_phk (z_fil _ (List.forall_mem_cons.mpr ⟨z_lnk zxt15 zxo27, fun _ h => absurd h List.not_mem_nil⟩)) zxk28
def zxs29 : List (Nat × zSig) := []
def zxe29 : zCe := ((z_KF13, z_KC13, z_KL13, z_KT13, [], [], [], none), [], 4000)
theorem zxk29 : z_chk z_TYs z_PH z_cl z_FT z_MT zxs29 [] z_PS zxm200 zxg29 zxe29 = true := by decide +kernel
theorem zxo29 : z_OK z_TB z_cl z_FT z_TYs z_PH z_KX zxm200.1 zxm200.2.1 zxm200.2.2.1 zxm200.2.2.2.1 zxg29 := z_meth (mm := zxm200) (ce := zxe29) (SG := zxs29) (RO := []) (PHS := z_PS) (MT := z_MT) zxp200 (z_ks13 _ (fun _ h => List.mem_cons_of_mem _ h) _ _ _ _ (fun j r h _ => by cases h)) (fun j h => by cases h) (fun _ _ => zs_KX_p) z_phk (z_fil _ (fun _ h => absurd h List.not_mem_nil)) zxk29
def zxs30 : List (Nat × zSig) := [(200, zxg29)]
def zxe30 : zCe := ((z_KF13, z_KC13, z_KL13, z_KT13, [(4, 0), (14, 0)], [], [], none), [], 4000)
theorem zxk30 : z_chk z_TYs z_PH z_cl z_FT z_MT zxs30 [] z_PS zxm208 zxg30 zxe30 = true := by decide +kernel
theorem zxo30 : z_OK z_TB z_cl z_FT z_TYs z_PH z_KX zxm208.1 zxm208.2.1 zxm208.2.2.1 zxm208.2.2.2.1 zxg30 := z_meth (mm := zxm208) (ce := zxe30) (SG := zxs30) (RO := []) (PHS := z_PS) (MT := z_MT) zxp208 (z_ks13 _ (fun _ h => List.mem_cons_of_mem _ h) _ _ _ _ (fun j r h _ => by cases h)) (fun j h => by cases h) (fun _ _ => zs_KX_p) z_phk (z_fil _ (List.forall_mem_cons.mpr ⟨z_lnk zxt200 zxo29, fun _ h => absurd h List.not_mem_nil⟩)) zxk30
def zxs31 : List (Nat × zSig) := []
def zxe31 : zCe := ((z_KF0, z_KC0, z_KL0, z_KT0, [], [], [], none), [], 4000)
theorem zxk31 : z_chk z_TYs z_PH z_cl z_FT z_MT zxs31 [] z_PS zxm16 zxg31 zxe31 = true := by decide +kernel
theorem zxo31 : z_OK z_TB z_cl z_FT z_TYs z_PH z_KX zxm16.1 zxm16.2.1 zxm16.2.2.1 zxm16.2.2.2.1 zxg31 := z_meth (mm := zxm16) (ce := zxe31) (SG := zxs31) (RO := []) (PHS := z_PS) (MT := z_MT) zxp16 (z_ks0 _ (fun _ h => List.mem_cons_of_mem _ h) _ _ _ _ (fun j r h _ => by cases h)) (fun j h => by cases h) (fun _ _ => zs_KX_p) z_phk (z_fil _ (fun _ h => absurd h List.not_mem_nil)) zxk31
def zxs32 : List (Nat × zSig) := []
def zxe32 : zCe := ((z_KF0, z_KC0, z_KL0, z_KT0, [], [], [], none), [], 4000)
theorem zxk32 : z_chk z_TYs z_PH z_cl z_FT z_MT zxs32 [] z_PS zxm24 zxg32 zxe32 = true := by decide +kernel
theorem zxo32 : z_OK z_TB z_cl z_FT z_TYs z_PH z_KX zxm24.1 zxm24.2.1 zxm24.2.2.1 zxm24.2.2.2.1 zxg32 := z_meth (mm := zxm24) (ce := zxe32) (SG := zxs32) (RO := []) (PHS := z_PS) (MT := z_MT) zxp24 (z_ks0 _ (fun _ h => List.mem_cons_of_mem _ h) _ _ _ _ (fun j r h _ => by cases h)) (fun j h => by cases h) (fun _ _ => zs_KX_p) z_phk (z_fil _ (fun _ h => absurd h List.not_mem_nil)) zxk32
def zxs33 : List (Nat × zSig) := []
def zxe33 : zCe := ((z_KF7, z_KC7, z_KL7, z_KT7, [], [], [], none), [], 4000)
theorem zxk33 : z_chk z_TYs z_PH z_cl z_FT z_MT zxs33 [] z_PS zxm26 zxg33 zxe33 = true := by decide +kernel
theorem zxo33 : z_OK z_TB z_cl z_FT z_TYs z_PH z_KX zxm26.1 zxm26.2.1 zxm26.2.2.1 zxm26.2.2.2.1 zxg33 := z_meth (mm := zxm26) (ce := zxe33) (SG := zxs33) (RO := []) (PHS := z_PS) (MT := z_MT) zxp26 (z_ks7 _ (fun _ h => List.mem_cons_of_mem _ h) _ _ _ _ (fun j r h _ => by cases h)) (fun j h => by cases h) (fun _ _ => zs_KX_p) z_phk (z_fil _ (fun _ h => absurd h List.not_mem_nil)) zxk33
def zxs34 : List (Nat × zSig) := [(26, zxg33)]
def zxe34 : zCe := ((z_KF7, z_KC7, z_KL7, z_KT7, [(10, 0)], [], [], none), [(2, ([(0, 0), (1, 1), (2, 2)], [], 3, [(0, .inr (.inl 142)), (1, .inl (.ofNat 0, .ofNat 287)), (2, .inl (.ofNat 0, .ofNat 6))], [], [], [], [], (0, 0), 0), [(0, 0, 0, 0), (0, 1, 0, 0), (1, 2, 0, 0)], (.ofNat 14, [(2, .negSucc 1)]))], 4000)
theorem zxk34 : z_chk z_TYs z_PH z_cl z_FT z_MT zxs34 [] z_PS zxm25 zxg34 zxe34 = true := by decide +kernel
theorem zxo34 : z_OK z_TB z_cl z_FT z_TYs z_PH z_KX zxm25.1 zxm25.2.1 zxm25.2.2.1 zxm25.2.2.2.1 zxg34 := z_meth (mm := zxm25) (ce := zxe34) (SG := zxs34) (RO := []) (PHS := z_PS) (MT := z_MT) zxp25 (z_ks7 _ (fun _ h => List.mem_cons_of_mem _ h) _ _ _ _ (fun j r h _ => by cases h)) (fun j h => by cases h) (fun _ _ => zs_KX_p) z_phk (z_fil _ (List.forall_mem_cons.mpr ⟨z_lnk zxt26 zxo33, fun _ h => absurd h List.not_mem_nil⟩)) zxk34
def zxs35 : List (Nat × zSig) := []
def zxe35 : zCe := ((z_KF7, z_KC7, z_KL7, z_KT7, [], [], [], none), [], 4000)
theorem zxk35 : z_chk z_TYs z_PH z_cl z_FT z_MT zxs35 [] z_PS zxm27 zxg35 zxe35 = true := by decide +kernel
theorem zxo35 : z_OK z_TB z_cl z_FT z_TYs z_PH z_KX zxm27.1 zxm27.2.1 zxm27.2.2.1 zxm27.2.2.2.1 zxg35 := z_meth (mm := zxm27) (ce := zxe35) (SG := zxs35) (RO := []) (PHS := z_PS) (MT := z_MT) zxp27 (z_ks7 _ (fun _ h => List.mem_cons_of_mem _ h) _ _ _ _ (fun j r h _ => by cases h)) (fun j h => by cases h) (fun _ _ => zs_KX_p) z_phk (z_fil _ (fun _ h => absurd h List.not_mem_nil)) zxk35
def zxs36 : List (Nat × zSig) := [(16, zxg31), (24, zxg32), (25, zxg34), (27, zxg35)]
def zxe36 : zCe := ((z_KF0, z_KC0, z_KL0, z_KT0, [(2, 0), (14, 1), (17, 2), (32, 3)], [], [], none), [], 4000)
theorem zxk36 : z_chk z_TYs z_PH z_cl z_FT z_MT zxs36 [] z_PS zxm23 zxg36 zxe36 = true := by decide +kernel
theorem zxo36 : z_OK z_TB z_cl z_FT z_TYs z_PH z_KX zxm23.1 zxm23.2.1 zxm23.2.2.1 zxm23.2.2.2.1 zxg36 := z_meth (mm := zxm23) (ce := zxe36) (SG := zxs36) (RO := []) (PHS := z_PS) (MT := z_MT) zxp23 (z_ks0 _ (fun _ h => List.mem_cons_of_mem _ h) _ _ _ _ (fun j r h _ => by cases h)) (fun j h => by cases h) (fun _ _ => zs_KX_p) z_phk (z_fil _ (List.forall_mem_cons.mpr ⟨z_lnk zxt16 zxo31, List.forall_mem_cons.mpr ⟨z_lnk zxt24 zxo32, List.forall_mem_cons.mpr ⟨z_lnk zxt25 zxo34, List.forall_mem_cons.mpr ⟨z_lnk zxt27 zxo35, fun _ h => absurd h List.not_mem_nil⟩⟩⟩⟩)) zxk36
def zxs37 : List (Nat × zSig) := []
def zxe37 : zCe := ((z_KF13, z_KC13, z_KL13, z_KT13, [], [], [], none), [], 4000)
theorem zxk37 : z_chk z_TYs z_PH z_cl z_FT z_MT zxs37 [] z_PS zxm201 zxg37 zxe37 = true := by decide +kernel
theorem zxo37 : z_OK z_TB z_cl z_FT z_TYs z_PH z_KX zxm201.1 zxm201.2.1 zxm201.2.2.1 zxm201.2.2.2.1 zxg37 := z_meth (mm := zxm201) (ce := zxe37) (SG := zxs37) (RO := []) (PHS := z_PS) (MT := z_MT) zxp201 (z_ks13 _ (fun _ h => List.mem_cons_of_mem _ h) _ _ _ _ (fun j r h _ => by cases h)) (fun j h => by cases h) (fun _ _ => zs_KX_p) z_phk (z_fil _ (fun _ h => absurd h List.not_mem_nil)) zxk37
def zxs38 : List (Nat × zSig) := []
def zxe38 : zCe := ((z_KF13, z_KC13, z_KL13, z_KT13, [], [], [], none), [], 4000)
theorem zxk38 : z_chk z_TYs z_PH z_cl z_FT z_MT zxs38 [] z_PS zxm204 zxg38 zxe38 = true := by decide +kernel
theorem zxo38 : z_OK z_TB z_cl z_FT z_TYs z_PH z_KX zxm204.1 zxm204.2.1 zxm204.2.2.1 zxm204.2.2.2.1 zxg38 := z_meth (mm := zxm204) (ce := zxe38) (SG := zxs38) (RO := []) (PHS := z_PS) (MT := z_MT) zxp204 (z_ks13 _ (fun _ h => List.mem_cons_of_mem _ h) _ _ _ _ (fun j r h _ => by cases h)) (fun j h => by cases h) (fun _ _ => zs_KX_p) z_phk (z_fil _ (fun _ h => absurd h List.not_mem_nil)) zxk38
def zxs39 : List (Nat × zSig) := [(204, zxg38)]
def zxe39 : zCe := ((z_KF13, z_KC13, z_KL13, z_KT13, [(18, 0)], [], [], none), [], 4000)
theorem zxk39 : z_chk z_TYs z_PH z_cl z_FT z_MT zxs39 [] z_PS zxm210 zxg39 zxe39 = true := by decide +kernel
theorem zxo39 : z_OK z_TB z_cl z_FT z_TYs z_PH z_KX zxm210.1 zxm210.2.1 zxm210.2.2.1 zxm210.2.2.2.1 zxg39 := z_meth (mm := zxm210) (ce := zxe39) (SG := zxs39) (RO := []) (PHS := z_PS) (MT := z_MT) zxp210 (z_ks13 _ (fun _ h => List.mem_cons_of_mem _ h) _ _ _ _ (fun j r h _ => by cases h)) (fun j h => by cases h) (fun _ _ => zs_KX_p) z_phk (z_fil _ (List.forall_mem_cons.mpr ⟨z_lnk zxt204 zxo38, fun _ h => absurd h List.not_mem_nil⟩)) zxk39
def zxs40 : List (Nat × zSig) := [(201, zxg37), (210, zxg39)]
def zxe40 : zCe := ((z_KF13, z_KC13, z_KL13, z_KT13, [(2, 0), (23, 1)], [], [], none), [(13, ([(0, 0), (1, 1), (2, 2), (3, 3), (4, 4)], [], 5, [(0, .inr (.inl 199)), (1, .inl (.ofNat 0, .ofNat 23)), (2, .inl (.ofNat 0, .ofNat 11)), (3, .inl (.ofNat 0, .ofNat 1)), (4, .inl (.ofNat 0, .ofNat 6))], [], [], [], [], (0, 0), 0), [(0, 0, 0, 0), (0, 1, 0, 0), (0, 2, 0, 0), (0, 3, 0, 0), (1, 4, 0, 0)], (.ofNat 14, [(4, .negSucc 1)]))], 4000)
theorem zxk40 : z_chk z_TYs z_PH z_cl z_FT z_MT zxs40 [] z_PS zxm209 zxg40 zxe40 = true := by decide +kernel
theorem zxo40 : z_OK z_TB z_cl z_FT z_TYs z_PH z_KX zxm209.1 zxm209.2.1 zxm209.2.2.1 zxm209.2.2.2.1 zxg40 := z_meth (mm := zxm209) (ce := zxe40) (SG := zxs40) (RO := []) (PHS := z_PS) (MT := z_MT) zxp209 (z_ks13 _ (fun _ h => List.mem_cons_of_mem _ h) _ _ _ _ (fun j r h _ => by cases h)) (fun j h => by cases h) (fun _ _ => zs_KX_p) z_phk (z_fil _ (List.forall_mem_cons.mpr ⟨z_lnk zxt201 zxo37, List.forall_mem_cons.mpr ⟨z_lnk zxt210 zxo39, fun _ h => absurd h List.not_mem_nil⟩⟩)) zxk40
def zxs41 : List (Nat × zSig) := []
def zxe41 : zCe := ((z_KF0, z_KC0, z_KL0, z_KT0, [], [], [], none), [], 4000)
theorem zxk41 : z_chk z_TYs z_PH z_cl z_FT z_MT zxs41 [] z_PS zxm15 zxg41 zxe41 = true := by decide +kernel
theorem zxo41 : z_OK z_TB z_cl z_FT z_TYs z_PH z_KX zxm15.1 zxm15.2.1 zxm15.2.2.1 zxm15.2.2.2.1 zxg41 := z_meth (mm := zxm15) (ce := zxe41) (SG := zxs41) (RO := []) (PHS := z_PS) (MT := z_MT) zxp15 (z_ks0 _ (fun _ h => List.mem_cons_of_mem _ h) _ _ _ _ (fun j r h _ => by cases h)) (fun j h => by cases h) (fun _ _ => zs_KX_p) z_phk (z_fil _ (fun _ h => absurd h List.not_mem_nil)) zxk41
def zxs42 : List (Nat × zSig) := []
def zxe42 : zCe := ((z_KF0, z_KC0, z_KL0, z_KT0, [], [], [], none), [], 4000)
theorem zxk42 : z_chk z_TYs z_PH z_cl z_FT z_MT zxs42 [] z_PS zxm30 zxg42 zxe42 = true := by decide +kernel
theorem zxo42 : z_OK z_TB z_cl z_FT z_TYs z_PH z_KX zxm30.1 zxm30.2.1 zxm30.2.2.1 zxm30.2.2.2.1 zxg42 := z_meth (mm := zxm30) (ce := zxe42) (SG := zxs42) (RO := []) (PHS := z_PS) (MT := z_MT) zxp30 (z_ks0 _ (fun _ h => List.mem_cons_of_mem _ h) _ _ _ _ (fun j r h _ => by cases h)) (fun j h => by cases h) (fun _ _ => zs_KX_p) z_phk (z_fil _ (fun _ h => absurd h List.not_mem_nil)) zxk42
def zxs43 : List (Nat × zSig) := []
def zxe43 : zCe := ((z_KF0, z_KC0, z_KL0, z_KT0, [], [], [], none), [], 4000)
theorem zxk43 : z_chk z_TYs z_PH z_cl z_FT z_MT zxs43 [] z_PS zxm31 zxg43 zxe43 = true := by decide +kernel
theorem zxo43 : z_OK z_TB z_cl z_FT z_TYs z_PH z_KX zxm31.1 zxm31.2.1 zxm31.2.2.1 zxm31.2.2.2.1 zxg43 := z_meth (mm := zxm31) (ce := zxe43) (SG := zxs43) (RO := []) (PHS := z_PS) (MT := z_MT) zxp31 (z_ks0 _ (fun _ h => List.mem_cons_of_mem _ h) _ _ _ _ (fun j r h _ => by cases h)) (fun j h => by cases h) (fun _ _ => zs_KX_p) z_phk (z_fil _ (fun _ h => absurd h List.not_mem_nil)) zxk43
def zxs44 : List (Nat × zSig) := [(30, zxg42), (31, zxg43)]
def zxe44 : zCe := ((z_KF7, z_KC7, z_KL7, z_KT7, [(5, 0), (10, 1)], [], [], none), [], 4000)
theorem zxk44 : z_chk z_TYs z_PH z_cl z_FT z_MT zxs44 [] z_PS zxm29 zxg44 zxe44 = true := by decide +kernel
theorem zxo44 : z_OK z_TB z_cl z_FT z_TYs z_PH z_KX zxm29.1 zxm29.2.1 zxm29.2.2.1 zxm29.2.2.2.1 zxg44 := z_meth (mm := zxm29) (ce := zxe44) (SG := zxs44) (RO := []) (PHS := z_PS) (MT := z_MT) zxp29 (z_ks7 _ (fun _ h => List.mem_cons_of_mem _ h) _ _ _ _ (fun j r h _ => by cases h)) (fun j h => by cases h) (fun _ _ => zs_KX_p) z_phk (z_fil _ (List.forall_mem_cons.mpr ⟨z_lnk zxt30 zxo42, List.forall_mem_cons.mpr ⟨z_lnk zxt31 zxo43, fun _ h => absurd h List.not_mem_nil⟩⟩)) zxk44
def zxs45 : List (Nat × zSig) := [(15, zxg41), (16, zxg31), (24, zxg32), (29, zxg44)]
def zxe45 : zCe := ((z_KF0, z_KC0, z_KL0, z_KT0, [(3, 0), (11, 1), (23, 2), (26, 3), (59, 2)], [], [], none), [], 4000)
theorem zxk45 : z_chk z_TYs z_PH z_cl z_FT z_MT zxs45 [] z_PS zxm28 zxg45 zxe45 = true := by decide +kernel
theorem zxo45 : z_OK z_TB z_cl z_FT z_TYs z_PH z_KX zxm28.1 zxm28.2.1 zxm28.2.2.1 zxm28.2.2.2.1 zxg45 := z_meth (mm := zxm28) (ce := zxe45) (SG := zxs45) (RO := []) (PHS := z_PS) (MT := z_MT) zxp28 (z_ks0 _ (fun _ h => List.mem_cons_of_mem _ h) _ _ _ _ (fun j r h _ => by cases h)) (fun j h => by cases h) (fun _ _ => zs_KX_p) z_phk (z_fil _ (List.forall_mem_cons.mpr ⟨z_lnk zxt15 zxo41, List.forall_mem_cons.mpr ⟨z_lnk zxt16 zxo31, List.forall_mem_cons.mpr ⟨z_lnk zxt24 zxo32, List.forall_mem_cons.mpr ⟨z_lnk zxt29 zxo44, fun _ h => absurd h List.not_mem_nil⟩⟩⟩⟩)) zxk45
def zxs46 : List (Nat × zSig) := []
def zxe46 : zCe := ((z_KF13, z_KC13, z_KL13, z_KT13, [], [], [], none), [], 4000)
theorem zxk46 : z_chk z_TYs z_PH z_cl z_FT z_MT zxs46 [] z_PS zxm200 zxg46 zxe46 = true := by decide +kernel
theorem zxo46 : z_OK z_TB z_cl z_FT z_TYs z_PH z_KX zxm200.1 zxm200.2.1 zxm200.2.2.1 zxm200.2.2.2.1 zxg46 := z_meth (mm := zxm200) (ce := zxe46) (SG := zxs46) (RO := []) (PHS := z_PS) (MT := z_MT) zxp200 (z_ks13 _ (fun _ h => List.mem_cons_of_mem _ h) _ _ _ _ (fun j r h _ => by cases h)) (fun j h => by cases h) (fun _ _ => zs_KX_p) z_phk (z_fil _ (fun _ h => absurd h List.not_mem_nil)) zxk46
def zxs47 : List (Nat × zSig) := []
def zxe47 : zCe := ((z_KF13, z_KC13, z_KL13, z_KT13, [], [], [], none), [], 4000)
theorem zxk47 : z_chk z_TYs z_PH z_cl z_FT z_MT zxs47 [] z_PS zxm212 zxg47 zxe47 = true := by decide +kernel
theorem zxo47 : z_OK z_TB z_cl z_FT z_TYs z_PH z_KX zxm212.1 zxm212.2.1 zxm212.2.2.1 zxm212.2.2.2.1 zxg47 := z_meth (mm := zxm212) (ce := zxe47) (SG := zxs47) (RO := []) (PHS := z_PS) (MT := z_MT) zxp212 (z_ks13 _ (fun _ h => List.mem_cons_of_mem _ h) _ _ _ _ (fun j r h _ => by cases h)) (fun j h => by cases h) (fun _ _ => zs_KX_p) z_phk (z_fil _ (fun _ h => absurd h List.not_mem_nil)) zxk47
def zxs48 : List (Nat × zSig) := [(200, zxg46), (201, zxg37), (212, zxg47)]
def zxe48 : zCe := ((z_KF13, z_KC13, z_KL13, z_KT13, [(3, 0), (11, 1), (24, 2)], [], [], none), [], 4000)
theorem zxk48 : z_chk z_TYs z_PH z_cl z_FT z_MT zxs48 [] z_PS zxm211 zxg48 zxe48 = true := by decide +kernel
theorem zxo48 : z_OK z_TB z_cl z_FT z_TYs z_PH z_KX zxm211.1 zxm211.2.1 zxm211.2.2.1 zxm211.2.2.2.1 zxg48 := z_meth (mm := zxm211) (ce := zxe48) (SG := zxs48) (RO := []) (PHS := z_PS) (MT := z_MT) zxp211 (z_ks13 _ (fun _ h => List.mem_cons_of_mem _ h) _ _ _ _ (fun j r h _ => by cases h)) (fun j h => by cases h) (fun _ _ => zs_KX_p) z_phk (z_fil _ (List.forall_mem_cons.mpr ⟨z_lnk zxt200 zxo46, List.forall_mem_cons.mpr ⟨z_lnk zxt201 zxo37, List.forall_mem_cons.mpr ⟨z_lnk zxt212 zxo47, fun _ h => absurd h List.not_mem_nil⟩⟩⟩)) zxk48
def zxs49 : List (Nat × zSig) := []
def zxe49 : zCe := ((z_KF10, z_KC10, z_KL10, z_KT10, [], [], [], none), [(3, ([(0, 0), (1, 1), (2, 2)], [], 3, [(0, .inr (.inl 148)), (1, .inl (.negSucc 2147483647, .ofNat 2147483647)), (2, .inl (.negSucc 7, .ofNat 24))], [], [], [], [], (0, 0), 0), [(0, 0, 0, 0), (0, 1, 0, 0), (1, 2, 0, 0)], (.ofNat 18, [(2, .ofNat 2)]))], 4000)
theorem zxk49 : z_chk z_TYs z_PH z_cl z_FT z_MT zxs49 [] z_PS zxm33 zxg49 zxe49 = true := by decide +kernel
theorem zxo49 : z_OK z_TB z_cl z_FT z_TYs z_PH z_KX zxm33.1 zxm33.2.1 zxm33.2.2.1 zxm33.2.2.2.1 zxg49 := z_meth (mm := zxm33) (ce := zxe49) (SG := zxs49) (RO := []) (PHS := z_PS) (MT := z_MT) zxp33 (z_ks10 _ (fun _ h => List.mem_cons_of_mem _ h) _ _ _ _ (fun j r h _ => by cases h)) (fun j h => by cases h) (fun _ _ => zs_KX_p) z_phk (z_fil _ (fun _ h => absurd h List.not_mem_nil)) zxk49
def zxs50 : List (Nat × zSig) := [(33, zxg49)]
def zxe50 : zCe := ((z_KF0, z_KC0, z_KL0, z_KT0, [(20, 0), (28, 0), (36, 0), (45, 0), (54, 0)], [], [], none), [], 4000)
theorem zxk50 : z_chk z_TYs z_PH z_cl z_FT z_MT zxs50 [] z_PS zxm32 zxg50 zxe50 = true := by decide +kernel
theorem zxo50 : z_OK z_TB z_cl z_FT z_TYs z_PH z_KX zxm32.1 zxm32.2.1 zxm32.2.2.1 zxm32.2.2.2.1 zxg50 := z_meth (mm := zxm32) (ce := zxe50) (SG := zxs50) (RO := []) (PHS := z_PS) (MT := z_MT) zxp32 (z_ks0 _ (fun _ h => List.mem_cons_of_mem _ h) _ _ _ _ (fun j r h _ => by cases h)) (fun j h => by cases h) (fun _ _ => zs_KX_p) z_phk (z_fil _ (List.forall_mem_cons.mpr ⟨z_lnk zxt33 zxo49, fun _ h => absurd h List.not_mem_nil⟩)) zxk50
