/-! Certificates. -/
def zxs75 : List (Nat × zSig) := []
def zxe75 : zCe := ((z_KF0, z_KC0, z_KL0, z_KT0, [], [], [], none), [], 4000)
theorem zxk75 : z_chk z_TYs z_PH z_cl z_FT z_MT zxs75 [] z_PS zxm15 zxg75 zxe75 = true := by decide +kernel
theorem zxo75 : z_OK z_TB z_cl z_FT z_TYs z_PH z_KX zxm15.1 zxm15.2.1 zxm15.2.2.1 zxm15.2.2.2.1 zxg75 := z_meth (mm := zxm15) (ce := zxe75) (SG := zxs75) (RO := []) (PHS := z_PS) (MT := z_MT) zxp15 (z_ks0 _ (fun _ h => List.mem_cons_of_mem _ h) _ _ _ _ (fun j r h _ => by cases h)) (fun j h => by cases h) (fun _ _ => zs_KX_p) z_phk (z_fil _ (fun _ h => absurd h List.not_mem_nil)) zxk75
def zxs76 : List (Nat × zSig) := []
def zxe76 : zCe := ((z_KF20, z_KC20, z_KL20, z_KT20, [], [], [], none), [(5, ([(0, 0), (1, 1), (2, 2), (3, 3)], [], 4, [(0, .inr (.inl 30)), (1, .inl (.ofNat 0, .ofNat 0)), (2, .inl (.ofNat 0, .ofNat 8)), (3, .inl (.ofNat 8, .ofNat 8))], [], [], [], [], (0, 0), 0), [(0, 0, 0, 0), (0, 1, 0, 0), (1, 2, 0, 0), (1, 3, 0, 0)], (.ofNat 18, [(2, .negSucc 1)]))], 4000)
theorem zxk76 : z_chk z_TYs z_PH z_cl z_FT z_MT zxs76 [] z_PS zxm78 zxg76 zxe76 = true := by decide +kernel
theorem zxo76 : z_OK z_TB z_cl z_FT z_TYs z_PH z_KX zxm78.1 zxm78.2.1 zxm78.2.2.1 zxm78.2.2.2.1 zxg76 := z_meth (mm := zxm78) (ce := zxe76) (SG := zxs76) (RO := []) (PHS := z_PS) (MT := z_MT) zxp78 (z_ks20 _ (fun _ h => List.mem_cons_of_mem _ h) _ _ _ _ (fun j r h _ => by cases h)) (fun j h => by cases h) (fun _ _ => zs_KX_p) z_phk (z_fil _ (fun _ h => absurd h List.not_mem_nil)) zxk76
def zxs77 : List (Nat × zSig) := []
def zxe77 : zCe := ((z_KF9, z_KC9, z_KL9, z_KT9, [], [], [], none), [], 4000)
theorem zxk77 : z_chk z_TYs z_PH z_cl z_FT z_MT zxs77 [] z_PS zxm79 zxg77 zxe77 = true := by decide +kernel
theorem zxo77 : z_OK z_TB z_cl z_FT z_TYs z_PH z_KX zxm79.1 zxm79.2.1 zxm79.2.2.1 zxm79.2.2.2.1 zxg77 := z_meth (mm := zxm79) (ce := zxe77) (SG := zxs77) (RO := []) (PHS := z_PS) (MT := z_MT) zxp79 (z_ks9 _ (fun _ h => List.mem_cons_of_mem _ h) _ _ _ _ (fun j r h _ => by cases h)) (fun j h => by cases h) (fun _ _ => zs_KX_p) z_phk (z_fil _ (fun _ h => absurd h List.not_mem_nil)) zxk77
def zxs78 : List (Nat × zSig) := []
def zxe78 : zCe := ((z_KF0, z_KC0, z_KL0, z_KT0, [], [], [], none), [], 4000)
theorem zxk78 : z_chk z_TYs z_PH z_cl z_FT z_MT zxs78 [] z_PS zxm42 zxg78 zxe78 = true := by decide +kernel
theorem zxo78 : z_OK z_TB z_cl z_FT z_TYs z_PH z_KX zxm42.1 zxm42.2.1 zxm42.2.2.1 zxm42.2.2.2.1 zxg78 := z_meth (mm := zxm42) (ce := zxe78) (SG := zxs78) (RO := []) (PHS := z_PS) (MT := z_MT) zxp42 (z_ks0 _ (fun _ h => List.mem_cons_of_mem _ h) _ _ _ _ (fun j r h _ => by cases h)) (fun j h => by cases h) (fun _ _ => zs_KX_p) z_phk (z_fil _ (fun _ h => absurd h List.not_mem_nil)) zxk78
def zxs79 : List (Nat × zSig) := []
def zxe79 : zCe := ((z_KF9, z_KC9, z_KL9, z_KT9, [], [], [], none), [], 4000)
theorem zxk79 : z_chk z_TYs z_PH z_cl z_FT z_MT zxs79 [] z_PS zxm80 zxg79 zxe79 = true := by decide +kernel
theorem zxo79 : z_OK z_TB z_cl z_FT z_TYs z_PH z_KX zxm80.1 zxm80.2.1 zxm80.2.2.1 zxm80.2.2.2.1 zxg79 := z_meth (mm := zxm80) (ce := zxe79) (SG := zxs79) (RO := []) (PHS := z_PS) (MT := z_MT) zxp80 (z_ks9 _ (fun _ h => List.mem_cons_of_mem _ h) _ _ _ _ (fun j r h _ => by cases h)) (fun j h => by cases h) (fun _ _ => zs_KX_p) z_phk (z_fil _ (fun _ h => absurd h List.not_mem_nil)) zxk79
def zxs80 : List (Nat × zSig) := [(78, zxg76), (79, zxg77), (42, zxg78), (80, zxg79)]
def zxe80 : zCe := ((z_KF9, z_KC9, z_KL9, z_KT9, [(15, 0), (37, 1), (50, 2), (65, 2), (74, 1), (89, 2), (104, 2), (126, 2), (135, 3), (161, 2), (173, 2)], [], [], none), [(20, ([(0, 0), (1, 1), (2, 2), (3, 3)], [], 4, [(0, .inr (.inl 31)), (1, .inr (.inl 18)), (2, .inl (.ofNat 1, .ofNat 60)), (3, .inl (.ofNat 0, .ofNat 62))], [], [], [], [], (0, 0), 0), [(0, 0, 0, 0), (0, 1, 0, 0), (0, 2, 0, 0), (1, 3, 0, 0)], (.ofNat 126, [(3, .negSucc 1)]))], 4000)
theorem zxk80 : z_chk z_TYs z_PH z_cl z_FT z_MT zxs80 [] z_PS zxm77 zxg80 zxe80 = true := by decide +kernel
theorem zxo80 : z_OK z_TB z_cl z_FT z_TYs z_PH z_KX zxm77.1 zxm77.2.1 zxm77.2.2.1 zxm77.2.2.2.1 zxg80 := z_meth (mm := zxm77) (ce := zxe80) (SG := zxs80) (RO := []) (PHS := z_PS) (MT := z_MT) zxp77 (z_ks9 _ (fun _ h => List.mem_cons_of_mem _ h) _ _ _ _ (fun j r h _ => by cases h)) (fun j h => by cases h) (fun _ _ => zs_KX_p) z_phk (z_fil _ (List.forall_mem_cons.mpr ⟨z_lnk zxt78 zxo76, List.forall_mem_cons.mpr ⟨z_lnk zxt79 zxo77, List.forall_mem_cons.mpr ⟨z_lnk zxt42 zxo78, List.forall_mem_cons.mpr ⟨z_lnk zxt80 zxo79, fun _ h => absurd h List.not_mem_nil⟩⟩⟩⟩)) zxk80
def zxs81 : List (Nat × zSig) := [(15, zxg75), (35, zxg70), (77, zxg80)]
def zxe81 : zCe := ((z_KF0, z_KC0, z_KL0, z_KT0, [(4, 0), (15, 1), (35, 2)], [], [], none), [], 4000)
theorem zxk81 : z_chk z_TYs z_PH z_cl z_FT z_MT zxs81 [] z_PS zxm76 zxg81 zxe81 = true := by decide +kernel
theorem zxo81 : z_OK z_TB z_cl z_FT z_TYs z_PH z_KX zxm76.1 zxm76.2.1 zxm76.2.2.1 zxm76.2.2.2.1 zxg81 := z_meth (mm := zxm76) (ce := zxe81) (SG := zxs81) (RO := []) (PHS := z_PS) (MT := z_MT) zxp76 (z_ks0 _ (fun _ h => List.mem_cons_of_mem _ h) _ _ _ _ (fun j r h _ => by cases h)) (fun j h => by cases h) (fun _ _ => zs_KX_p) z_phk (z_fil _ (List.forall_mem_cons.mpr ⟨z_lnk zxt15 zxo75, List.forall_mem_cons.mpr ⟨z_lnk zxt35 zxo70, List.forall_mem_cons.mpr ⟨z_lnk zxt77 zxo80, fun _ h => absurd h List.not_mem_nil⟩⟩⟩)) zxk81
def zxs82 : List (Nat × zSig) := []
def zxe82 : zCe := ((z_KF13, z_KC13, z_KL13, z_KT13, [], [], [], none), [], 4000)
theorem zxk82 : z_chk z_TYs z_PH z_cl z_FT z_MT zxs82 [] z_PS zxm200 zxg82 zxe82 = true := by decide +kernel
theorem zxo82 : z_OK z_TB z_cl z_FT z_TYs z_PH z_KX zxm200.1 zxm200.2.1 zxm200.2.2.1 zxm200.2.2.2.1 zxg82 := z_meth (mm := zxm200) (ce := zxe82) (SG := zxs82) (RO := []) (PHS := z_PS) (MT := z_MT) zxp200 (z_ks13 _ (fun _ h => List.mem_cons_of_mem _ h) _ _ _ _ (fun j r h _ => by cases h)) (fun j h => by cases h) (fun _ _ => zs_KX_p) z_phk (z_fil _ (fun _ h => absurd h List.not_mem_nil)) zxk82
def zxs83 : List (Nat × zSig) := []
def zxe83 : zCe := ((z_KF13, z_KC13, z_KL13, z_KT13, [], [], [], none), [], 4000)
theorem zxk83 : z_chk z_TYs z_PH z_cl z_FT z_MT zxs83 [] z_PS zxm217 zxg83 zxe83 = true := by decide +kernel
theorem zxo83 : z_OK z_TB z_cl z_FT z_TYs z_PH z_KX zxm217.1 zxm217.2.1 zxm217.2.2.1 zxm217.2.2.2.1 zxg83 := z_meth (mm := zxm217) (ce := zxe83) (SG := zxs83) (RO := []) (PHS := z_PS) (MT := z_MT) zxp217 (z_ks13 _ (fun _ h => List.mem_cons_of_mem _ h) _ _ _ _ (fun j r h _ => by cases h)) (fun j h => by cases h) (fun _ _ => zs_KX_p) z_phk (z_fil _ (fun _ h => absurd h List.not_mem_nil)) zxk83
def zxs84 : List (Nat × zSig) := []
def zxe84 : zCe := ((z_KF13, z_KC13, z_KL13, z_KT13, [], [], [], none), [], 4000)
theorem zxk84 : z_chk z_TYs z_PH z_cl z_FT z_MT zxs84 [] z_PS zxm200 zxg84 zxe84 = true := by decide +kernel
theorem zxo84 : z_OK z_TB z_cl z_FT z_TYs z_PH z_KX zxm200.1 zxm200.2.1 zxm200.2.2.1 zxm200.2.2.2.1 zxg84 := z_meth (mm := zxm200) (ce := zxe84) (SG := zxs84) (RO := []) (PHS := z_PS) (MT := z_MT) zxp200 (z_ks13 _ (fun _ h => List.mem_cons_of_mem _ h) _ _ _ _ (fun j r h _ => by cases h)) (fun j h => by cases h) (fun _ _ => zs_KX_p) z_phk (z_fil _ (fun _ h => absurd h List.not_mem_nil)) zxk84
def zxs85 : List (Nat × zSig) := [(217, zxg83), (200, zxg84)]
def zxe85 : zCe := ((z_KF13, z_KC13, z_KL13, z_KT13, [(1, 0), (8, 1)], [], [], none), [], 4000)
theorem zxk85 : z_chk z_TYs z_PH z_cl z_FT z_MT zxs85 [] z_PS zxm265 zxg85 zxe85 = true := by decide +kernel
theorem zxo85 : z_OK z_TB z_cl z_FT z_TYs z_PH z_KX zxm265.1 zxm265.2.1 zxm265.2.2.1 zxm265.2.2.2.1 zxg85 := z_meth (mm := zxm265) (ce := zxe85) (SG := zxs85) (RO := []) (PHS := z_PS) (MT := z_MT) zxp265 (z_ks13 _ (fun _ h => List.mem_cons_of_mem _ h) _ _ _ _ (fun j r h _ => by cases h)) (fun j h => by cases h) (fun _ _ => zs_KX_p) z_phk (z_fil _ (List.forall_mem_cons.mpr ⟨z_lnk zxt217 zxo83, List.forall_mem_cons.mpr ⟨z_lnk zxt200 zxo84, fun _ h => absurd h List.not_mem_nil⟩⟩)) zxk85
def zxs86 : List (Nat × zSig) := []
def zxe86 : zCe := ((z_KF13, z_KC13, z_KL13, z_KT13, [], [], [], none), [], 4000)
theorem zxk86 : z_chk z_TYs z_PH z_cl z_FT z_MT zxs86 [] z_PS zxm219 zxg86 zxe86 = true := by decide +kernel
theorem zxo86 : z_OK z_TB z_cl z_FT z_TYs z_PH z_KX zxm219.1 zxm219.2.1 zxm219.2.2.1 zxm219.2.2.2.1 zxg86 := z_meth (mm := zxm219) (ce := zxe86) (SG := zxs86) (RO := []) (PHS := z_PS) (MT := z_MT) zxp219 (z_ks13 _ (fun _ h => List.mem_cons_of_mem _ h) _ _ _ _ (fun j r h _ => by cases h)) (fun j h => by cases h) (fun _ _ => zs_KX_p) z_phk (z_fil _ (fun _ h => absurd h List.not_mem_nil)) zxk86
def zxs87 : List (Nat × zSig) := []
def zxe87 : zCe := ((z_KF13, z_KC13, z_KL13, z_KT13, [], [], [], none), [(2, ([(0, 0), (1, 1), (2, 2), (3, 3)], [], 4, [(0, .inr (.inl 114)), (1, .inl (.negSucc 65, .ofNat 190)), (2, .inl (.negSucc 65, .ofNat 190)), (3, .inl (.ofNat 0, .ofNat 12))], [], [], [], [], (0, 0), 0), [(0, 0, 0, 0), (0, 1, 0, 0), (0, 2, 0, 0), (1, 3, 0, 0)], (.ofNat 26, [(3, .negSucc 1)]))], 4000)
theorem zxk87 : z_chk z_TYs z_PH z_cl z_FT z_MT zxs87 [] z_PS zxm266 zxg87 zxe87 = true := by decide +kernel
theorem zxo87 : z_OK z_TB z_cl z_FT z_TYs z_PH z_KX zxm266.1 zxm266.2.1 zxm266.2.2.1 zxm266.2.2.2.1 zxg87 := z_meth (mm := zxm266) (ce := zxe87) (SG := zxs87) (RO := []) (PHS := z_PS) (MT := z_MT) zxp266 (z_ks13 _ (fun _ h => List.mem_cons_of_mem _ h) _ _ _ _ (fun j r h _ => by cases h)) (fun j h => by cases h) (fun _ _ => zs_KX_p) z_phk (z_fil _ (fun _ h => absurd h List.not_mem_nil)) zxk87
def zxs88 : List (Nat × zSig) := [(265, zxg85), (219, zxg86), (217, zxg83), (266, zxg87)]
def zxe88 : zCe := ((z_KF13, z_KC13, z_KL13, z_KT13, [(6, 0), (18, 1), (37, 1), (42, 2), (60, 0), (72, 1), (77, 2), (95, 1), (102, 3), (112, 1)], [], [], none), [], 4000)
theorem zxk88 : z_chk z_TYs z_PH z_cl z_FT z_MT zxs88 [] z_PS zxm264 zxg88 zxe88 = true := by decide +kernel
theorem zxo88 : z_OK z_TB z_cl z_FT z_TYs z_PH z_KX zxm264.1 zxm264.2.1 zxm264.2.2.1 zxm264.2.2.2.1 zxg88 := z_meth (mm := zxm264) (ce := zxe88) (SG := zxs88) (RO := []) (PHS := z_PS) (MT := z_MT) zxp264 (z_ks13 _ (fun _ h => List.mem_cons_of_mem _ h) _ _ _ _ (fun j r h _ => by cases h)) (fun j h => by cases h) (fun _ _ => zs_KX_p) z_phk (z_fil _ (List.forall_mem_cons.mpr ⟨z_lnk zxt265 zxo85, List.forall_mem_cons.mpr ⟨z_lnk zxt219 zxo86, List.forall_mem_cons.mpr ⟨z_lnk zxt217 zxo83, List.forall_mem_cons.mpr ⟨z_lnk zxt266 zxo87, fun _ h => absurd h List.not_mem_nil⟩⟩⟩⟩)) zxk88
def zxs89 : List (Nat × zSig) := [(217, zxg83), (219, zxg86)]
def zxe89 : zCe := ((z_KF13, z_KC13, z_KL13, z_KT13, [(1, 0), (14, 1)], [], [], none), [], 4000)
theorem zxk89 : z_chk z_TYs z_PH z_cl z_FT z_MT zxs89 [] z_PS zxm236 zxg89 zxe89 = true := by decide +kernel
theorem zxo89 : z_OK z_TB z_cl z_FT z_TYs z_PH z_KX zxm236.1 zxm236.2.1 zxm236.2.2.1 zxm236.2.2.2.1 zxg89 := z_meth (mm := zxm236) (ce := zxe89) (SG := zxs89) (RO := []) (PHS := z_PS) (MT := z_MT) zxp236 (z_ks13 _ (fun _ h => List.mem_cons_of_mem _ h) _ _ _ _ (fun j r h _ => by cases h)) (fun j h => by cases h) (fun _ _ => zs_KX_p) z_phk (z_fil _ (List.forall_mem_cons.mpr ⟨z_lnk zxt217 zxo83, List.forall_mem_cons.mpr ⟨z_lnk zxt219 zxo86, fun _ h => absurd h List.not_mem_nil⟩⟩)) zxk89
def zxs90 : List (Nat × zSig) := [(200, zxg82), (264, zxg88), (236, zxg89)]
def zxe90 : zCe := ((z_KF13, z_KC13, z_KL13, z_KT13, [(4, 0), (36, 1), (58, 2), (65, 1)], [], [], none), [(109, ([(0, 0), (3, 2)], [], 5, [(0, .inr (.inl 114)), (1, .inl (.ofNat 1, .ofNat 60)), (2, .inl (.ofNat 0, .ofNat 12)), (3, .inl (.ofNat 1, .ofNat 60)), (4, .inl (.ofNat 1, .ofNat 62))], [(0, 12, 6, 3), (0, 12, 5, 4)], [], [(4, 3, .ofNat 0), (4, 1, .ofNat 0), (3, 1, .ofNat 0), (1, 3, .ofNat 0)], [], (0, 0), 0), [(0, 0, 0, 0), (0, 1, 0, 0), (1, 3, 0, 0), (3, 0, 12, 6), (3, 0, 12, 5)], (.ofNat 26, [(2, .negSucc 1)])), (40, ([(0, 0), (2, 2)], [], 5, [(0, .inr (.inl 114)), (1, .inl (.ofNat 1, .ofNat 60)), (2, .inl (.ofNat 0, .ofNat 1)), (3, .inl (.ofNat 1, .ofNat 60)), (4, .inl (.ofNat 0, .ofNat 62))], [(0, 12, 6, 3), (0, 12, 5, 4)], [], [(3, 1, .ofNat 0), (1, 3, .ofNat 0)], [], (0, 0), 0), [(0, 0, 0, 0), (0, 1, 0, 0), (1, 2, 0, 0), (3, 0, 12, 6), (3, 0, 12, 5)], (.ofNat 1000442, [(4, .negSucc 1), (2, .ofNat 1)]))], 4000)
theorem zxk90 : z_chk z_TYs z_PH z_cl z_FT z_MT zxs90 [] z_PS zxm263 zxg90 zxe90 = true := by decide +kernel
theorem zxo90 : z_OK z_TB z_cl z_FT z_TYs z_PH z_KX zxm263.1 zxm263.2.1 zxm263.2.2.1 zxm263.2.2.2.1 zxg90 := z_meth (mm := zxm263) (ce := zxe90) (SG := zxs90) (RO := []) (PHS := z_PS) (MT := z_MT) zxp263 (z_ks13 _ (fun _ h => List.mem_cons_of_mem _ h) _ _ _ _ (fun j r h _ => by cases h)) (fun j h => by cases h) (fun _ _ => zs_KX_p) z_phk (z_fil _ (List.forall_mem_cons.mpr ⟨z_lnk zxt200 zxo82, List.forall_mem_cons.mpr ⟨z_lnk zxt264 zxo88, List.forall_mem_cons.mpr ⟨z_lnk zxt236 zxo89, fun _ h => absurd h List.not_mem_nil⟩⟩⟩)) zxk90
def zxs91 : List (Nat × zSig) := []
def zxe91 : zCe := ((z_KF8, z_KC8, z_KL8, z_KT8, [], [], [], none), [], 4000)
theorem zxk91 : z_chk z_TYs z_PH z_cl z_FT z_MT zxs91 [] z_PS zxm82 zxg91 zxe91 = true := by decide +kernel
theorem zxo91 : z_OK z_TB z_cl z_FT z_TYs z_PH z_KX zxm82.1 zxm82.2.1 zxm82.2.2.1 zxm82.2.2.2.1 zxg91 := z_meth (mm := zxm82) (ce := zxe91) (SG := zxs91) (RO := []) (PHS := z_PS) (MT := z_MT) zxp82 (z_ks8 _ (fun _ h => List.mem_cons_of_mem _ h) _ _ _ _ (fun j r h _ => by cases h)) (fun j h => by cases h) (fun _ _ => zs_KX_p) z_phk (z_fil _ (fun _ h => absurd h List.not_mem_nil)) zxk91
def zxs92 : List (Nat × zSig) := [(18, zxg27), (82, zxg91)]
def zxe92 : zCe := ((z_KF0, z_KC0, z_KL0, z_KT0, [(5, 0), (87, 1)], [], [], none), [], 4000)
theorem zxk92 : z_chk z_TYs z_PH z_cl z_FT z_MT zxs92 [] z_PS zxm81 zxg92 zxe92 = true := by decide +kernel
theorem zxo92 : z_OK z_TB z_cl z_FT z_TYs z_PH z_KX zxm81.1 zxm81.2.1 zxm81.2.2.1 zxm81.2.2.2.1 zxg92 := z_meth (mm := zxm81) (ce := zxe92) (SG := zxs92) (RO := []) (PHS := z_PS) (MT := z_MT) zxp81 (z_ks0 _ (fun _ h => List.mem_cons_of_mem _ h) _ _ _ _ (fun j r h _ => by cases h)) (fun j h => by cases h) (fun _ _ => zs_KX_p) z_phk (z_fil _ (List.forall_mem_cons.mpr ⟨z_lnk zxt18 zxo27, List.forall_mem_cons.mpr ⟨z_lnk zxt82 zxo91, fun _ h => absurd h List.not_mem_nil⟩⟩)) zxk92
def zxs93 : List (Nat × zSig) := []
def zxe93 : zCe := ((z_KF13, z_KC13, z_KL13, z_KT13, [], [], [], none), [], 4000)
theorem zxk93 : z_chk z_TYs z_PH z_cl z_FT z_MT zxs93 [] z_PS zxm238 zxg93 zxe93 = true := by decide +kernel
theorem zxo93 : z_OK z_TB z_cl z_FT z_TYs z_PH z_KX zxm238.1 zxm238.2.1 zxm238.2.2.1 zxm238.2.2.2.1 zxg93 := z_meth (mm := zxm238) (ce := zxe93) (SG := zxs93) (RO := []) (PHS := z_PS) (MT := z_MT) zxp238 (z_ks13 _ (fun _ h => List.mem_cons_of_mem _ h) _ _ _ _ (fun j r h _ => by cases h)) (fun j h => by cases h) (fun _ _ => zs_KX_p) z_phk (z_fil _ (fun _ h => absurd h List.not_mem_nil)) zxk93
def zxs94 : List (Nat × zSig) := [(203, zxg31), (238, zxg93)]
def zxe94 : zCe := ((z_KF13, z_KC13, z_KL13, z_KT13, [(2, 0), (79, 1)], [], [], none), [], 4000)
theorem zxk94 : z_chk z_TYs z_PH z_cl z_FT z_MT zxs94 [] z_PS zxm237 zxg94 zxe94 = true := by decide +kernel
theorem zxo94 : z_OK z_TB z_cl z_FT z_TYs z_PH z_KX zxm237.1 zxm237.2.1 zxm237.2.2.1 zxm237.2.2.2.1 zxg94 := z_meth (mm := zxm237) (ce := zxe94) (SG := zxs94) (RO := []) (PHS := z_PS) (MT := z_MT) zxp237 (z_ks13 _ (fun _ h => List.mem_cons_of_mem _ h) _ _ _ _ (fun j r h _ => by cases h)) (fun j h => by cases h) (fun _ _ => zs_KX_p) z_phk (z_fil _ (List.forall_mem_cons.mpr ⟨z_lnk zxt203 zxo31, List.forall_mem_cons.mpr ⟨z_lnk zxt238 zxo93, fun _ h => absurd h List.not_mem_nil⟩⟩)) zxk94
