/-! Certificates. -/
def zxs77 : List (Nat × zSig) := [(217, zxg71), (219, zxg74)]
def zxe77 : zCe := ((z_KF13, z_KC13, z_KL13, z_KT13, [(1, 0), (14, 1)], [], [], none), [], 4000)
theorem zxk77 : z_chk z_TYs z_PH z_cl z_FT z_MT zxs77 [] z_PS zxm236 zxg77 zxe77 = true := by decide +kernel
theorem zxo77 : z_OK z_TB z_cl z_FT z_TYs z_PH z_KX zxm236.1 zxm236.2.1 zxm236.2.2.1 zxm236.2.2.2.1 zxg77 := z_meth (mm := zxm236) (ce := zxe77) (SG := zxs77) (RO := []) (PHS := z_PS) (MT := z_MT) zxp236 (z_ks13 _ (fun _ h => List.mem_cons_of_mem _ h) _ _ _ _ (fun j r h _ => by cases h)) (fun j h => by cases h) (fun _ _ => zs_KX_p) z_phk (z_fil _ (List.forall_mem_cons.mpr ⟨z_lnk zxt217 zxo71, List.forall_mem_cons.mpr ⟨z_lnk zxt219 zxo74, fun _ h => absurd h List.not_mem_nil⟩⟩)) zxk77
def zxs78 : List (Nat × zSig) := [(200, zxg70), (264, zxg76), (236, zxg77)]
def zxe78 : zCe := ((z_KF13, z_KC13, z_KL13, z_KT13, [(4, 0), (36, 1), (58, 2), (65, 1)], [], [], none), [(109, ([(0, 0), (3, 2)], [], 5, [(0, .inr (.inl 199)), (1, .inl (.ofNat 1, .ofNat 60)), (2, .inl (.ofNat 0, .ofNat 12)), (3, .inl (.ofNat 1, .ofNat 60)), (4, .inl (.ofNat 1, .ofNat 62))], [(0, 12, 6, 3), (0, 12, 5, 4)], [], [(4, 3, .ofNat 0), (4, 1, .ofNat 0), (3, 1, .ofNat 0), (1, 3, .ofNat 0)], [], (0, 0), 0), [(0, 0, 0, 0), (0, 1, 0, 0), (1, 3, 0, 0), (3, 0, 12, 6), (3, 0, 12, 5)], (.ofNat 26, [(2, .negSucc 1)])), (40, ([(0, 0), (2, 2)], [], 5, [(0, .inr (.inl 199)), (1, .inl (.ofNat 1, .ofNat 60)), (2, .inl (.ofNat 0, .ofNat 1)), (3, .inl (.ofNat 1, .ofNat 60)), (4, .inl (.ofNat 0, .ofNat 62))], [(0, 12, 6, 3), (0, 12, 5, 4)], [], [(3, 1, .ofNat 0), (1, 3, .ofNat 0)], [], (0, 0), 0), [(0, 0, 0, 0), (0, 1, 0, 0), (1, 2, 0, 0), (3, 0, 12, 6), (3, 0, 12, 5)], (.ofNat 1000442, [(4, .negSucc 1), (2, .ofNat 1)]))], 4000)
theorem zxk78 : z_chk z_TYs z_PH z_cl z_FT z_MT zxs78 [] z_PS zxm263 zxg78 zxe78 = true := by decide +kernel
theorem zxo78 : z_OK z_TB z_cl z_FT z_TYs z_PH z_KX zxm263.1 zxm263.2.1 zxm263.2.2.1 zxm263.2.2.2.1 zxg78 := z_meth (mm := zxm263) (ce := zxe78) (SG := zxs78) (RO := []) (PHS := z_PS) (MT := z_MT) zxp263 (z_ks13 _ (fun _ h => List.mem_cons_of_mem _ h) _ _ _ _ (fun j r h _ => by cases h)) (fun j h => by cases h) (fun _ _ => zs_KX_p) z_phk (z_fil _ (List.forall_mem_cons.mpr ⟨z_lnk zxt200 zxo70, List.forall_mem_cons.mpr ⟨z_lnk zxt264 zxo76, List.forall_mem_cons.mpr ⟨z_lnk zxt236 zxo77, fun _ h => absurd h List.not_mem_nil⟩⟩⟩)) zxk78
def zxs79 : List (Nat × zSig) := []
def zxe79 : zCe := ((z_KF8, z_KC8, z_KL8, z_KT8, [], [], [], none), [], 4000)
theorem zxk79 : z_chk z_TYs z_PH z_cl z_FT z_MT zxs79 [] z_PS zxm18 zxg79 zxe79 = true := by decide +kernel
theorem zxo79 : z_OK z_TB z_cl z_FT z_TYs z_PH z_KX zxm18.1 zxm18.2.1 zxm18.2.2.1 zxm18.2.2.2.1 zxg79 := z_meth (mm := zxm18) (ce := zxe79) (SG := zxs79) (RO := []) (PHS := z_PS) (MT := z_MT) zxp18 (z_ks8 _ (fun _ h => List.mem_cons_of_mem _ h) _ _ _ _ (fun j r h _ => by cases h)) (fun j h => by cases h) (fun _ _ => zs_KX_p) z_phk (z_fil _ (fun _ h => absurd h List.not_mem_nil)) zxk79
def zxs80 : List (Nat × zSig) := []
def zxe80 : zCe := ((z_KF8, z_KC8, z_KL8, z_KT8, [], [], [], none), [], 4000)
theorem zxk80 : z_chk z_TYs z_PH z_cl z_FT z_MT zxs80 [] z_PS zxm82 zxg80 zxe80 = true := by decide +kernel
theorem zxo80 : z_OK z_TB z_cl z_FT z_TYs z_PH z_KX zxm82.1 zxm82.2.1 zxm82.2.2.1 zxm82.2.2.2.1 zxg80 := z_meth (mm := zxm82) (ce := zxe80) (SG := zxs80) (RO := []) (PHS := z_PS) (MT := z_MT) zxp82 (z_ks8 _ (fun _ h => List.mem_cons_of_mem _ h) _ _ _ _ (fun j r h _ => by cases h)) (fun j h => by cases h) (fun _ _ => zs_KX_p) z_phk (z_fil _ (fun _ h => absurd h List.not_mem_nil)) zxk80
def zxs81 : List (Nat × zSig) := [(18, zxg79), (82, zxg80)]
def zxe81 : zCe := ((z_KF0, z_KC0, z_KL0, z_KT0, [(5, 0), (87, 1)], [], [], none), [], 4000)
theorem zxk81 : z_chk z_TYs z_PH z_cl z_FT z_MT zxs81 [] z_PS zxm81 zxg81 zxe81 = true := by decide +kernel
theorem zxo81 : z_OK z_TB z_cl z_FT z_TYs z_PH z_KX zxm81.1 zxm81.2.1 zxm81.2.2.1 zxm81.2.2.2.1 zxg81 := z_meth (mm := zxm81) (ce := zxe81) (SG := zxs81) (RO := []) (PHS := z_PS) (MT := z_MT) zxp81 (z_ks0 _ (fun _ h => List.mem_cons_of_mem _ h) _ _ _ _ (fun j r h _ => by cases h)) (fun j h => by cases h) (fun _ _ => zs_KX_p) z_phk (z_fil _ (List.forall_mem_cons.mpr ⟨z_lnk zxt18 zxo79, List.forall_mem_cons.mpr ⟨z_lnk zxt82 zxo80, fun _ h => absurd h List.not_mem_nil⟩⟩)) zxk81
def zxs82 : List (Nat × zSig) := [(204, zxg38)]
def zxe82 : zCe := ((z_KF13, z_KC13, z_KL13, z_KT13, [(18, 0)], [], [], none), [], 4000)
theorem zxk82 : z_chk z_TYs z_PH z_cl z_FT z_MT zxs82 [] z_PS zxm203 zxg82 zxe82 = true := by decide +kernel
theorem zxo82 : z_OK z_TB z_cl z_FT z_TYs z_PH z_KX zxm203.1 zxm203.2.1 zxm203.2.2.1 zxm203.2.2.2.1 zxg82 := z_meth (mm := zxm203) (ce := zxe82) (SG := zxs82) (RO := []) (PHS := z_PS) (MT := z_MT) zxp203 (z_ks13 _ (fun _ h => List.mem_cons_of_mem _ h) _ _ _ _ (fun j r h _ => by cases h)) (fun j h => by cases h) (fun _ _ => zs_KX_p) z_phk (z_fil _ (List.forall_mem_cons.mpr ⟨z_lnk zxt204 zxo38, fun _ h => absurd h List.not_mem_nil⟩)) zxk82
def zxs83 : List (Nat × zSig) := []
def zxe83 : zCe := ((z_KF13, z_KC13, z_KL13, z_KT13, [], [], [], none), [], 4000)
theorem zxk83 : z_chk z_TYs z_PH z_cl z_FT z_MT zxs83 [] z_PS zxm238 zxg83 zxe83 = true := by decide +kernel
theorem zxo83 : z_OK z_TB z_cl z_FT z_TYs z_PH z_KX zxm238.1 zxm238.2.1 zxm238.2.2.1 zxm238.2.2.2.1 zxg83 := z_meth (mm := zxm238) (ce := zxe83) (SG := zxs83) (RO := []) (PHS := z_PS) (MT := z_MT) zxp238 (z_ks13 _ (fun _ h => List.mem_cons_of_mem _ h) _ _ _ _ (fun j r h _ => by cases h)) (fun j h => by cases h) (fun _ _ => zs_KX_p) z_phk (z_fil _ (fun _ h => absurd h List.not_mem_nil)) zxk83
def zxs84 : List (Nat × zSig) := [(203, zxg82), (238, zxg83)]
def zxe84 : zCe := ((z_KF13, z_KC13, z_KL13, z_KT13, [(2, 0), (79, 1)], [], [], none), [], 4000)
theorem zxk84 : z_chk z_TYs z_PH z_cl z_FT z_MT zxs84 [] z_PS zxm237 zxg84 zxe84 = true := by decide +kernel
theorem zxo84 : z_OK z_TB z_cl z_FT z_TYs z_PH z_KX zxm237.1 zxm237.2.1 zxm237.2.2.1 zxm237.2.2.2.1 zxg84 := z_meth (mm := zxm237) (ce := zxe84) (SG := zxs84) (RO := []) (PHS := z_PS) (MT := z_MT) zxp237 (z_ks13 _ (fun _ h => List.mem_cons_of_mem _ h) _ _ _ _ (fun j r h _ => by cases h)) (fun j h => by cases h) (fun _ _ => zs_KX_p) z_phk (z_fil _ (List.forall_mem_cons.mpr ⟨z_lnk zxt203 zxo82, List.forall_mem_cons.mpr ⟨z_lnk zxt238 zxo83, fun _ h => absurd h List.not_mem_nil⟩⟩)) zxk84
def zxs85 : List (Nat × zSig) := []
def zxe85 : zCe := ((z_KF20, z_KC20, z_KL20, z_KT20, [], [], [], none), [(5, ([(0, 0), (1, 1), (2, 2), (3, 3)], [], 4, [(0, .inr (.inl 164)), (1, .inl (.ofNat 0, .ofNat 0)), (2, .inl (.ofNat 0, .ofNat 24)), (3, .inl (.ofNat 24, .ofNat 24))], [], [], [], [], (0, 0), 0), [(0, 0, 0, 0), (0, 1, 0, 0), (1, 2, 0, 0), (1, 3, 0, 0)], (.ofNat 50, [(2, .negSucc 1)]))], 4000)
theorem zxk85 : z_chk z_TYs z_PH z_cl z_FT z_MT zxs85 [] z_PS zxm78 zxg85 zxe85 = true := by decide +kernel
theorem zxo85 : z_OK z_TB z_cl z_FT z_TYs z_PH z_KX zxm78.1 zxm78.2.1 zxm78.2.2.1 zxm78.2.2.2.1 zxg85 := z_meth (mm := zxm78) (ce := zxe85) (SG := zxs85) (RO := []) (PHS := z_PS) (MT := z_MT) zxp78 (z_ks20 _ (fun _ h => List.mem_cons_of_mem _ h) _ _ _ _ (fun j r h _ => by cases h)) (fun j h => by cases h) (fun _ _ => zs_KX_p) z_phk (z_fil _ (fun _ h => absurd h List.not_mem_nil)) zxk85
def zxs86 : List (Nat × zSig) := [(78, zxg85)]
def zxe86 : zCe := ((z_KF11, z_KC11, z_KL11, z_KT11, [(20, 0)], [], [], none), [], 4000)
theorem zxk86 : z_chk z_TYs z_PH z_cl z_FT z_MT zxs86 [] z_PS zxm84 zxg86 zxe86 = true := by decide +kernel
theorem zxo86 : z_OK z_TB z_cl z_FT z_TYs z_PH z_KX zxm84.1 zxm84.2.1 zxm84.2.2.1 zxm84.2.2.2.1 zxg86 := z_meth (mm := zxm84) (ce := zxe86) (SG := zxs86) (RO := []) (PHS := z_PS) (MT := z_MT) zxp84 (z_ks11 _ (fun _ h => List.mem_cons_of_mem _ h) _ _ _ _ (fun j r h _ => by cases h)) (fun j h => by cases h) (fun _ _ => zs_KX_p) z_phk (z_fil _ (List.forall_mem_cons.mpr ⟨z_lnk zxt78 zxo85, fun _ h => absurd h List.not_mem_nil⟩)) zxk86
def zxs87 : List (Nat × zSig) := []
def zxe87 : zCe := ((z_KF20, z_KC20, z_KL20, z_KT20, [], [], [], none), [(5, ([(0, 0), (1, 1), (2, 2), (3, 3)], [], 4, [(0, .inr (.inl 157)), (1, .inl (.ofNat 0, .ofNat 0)), (2, .inl (.ofNat 0, .ofNat 13)), (3, .inl (.ofNat 13, .ofNat 13))], [], [], [], [], (0, 0), 0), [(0, 0, 0, 0), (0, 1, 0, 0), (1, 2, 0, 0), (1, 3, 0, 0)], (.ofNat 28, [(2, .negSucc 1)]))], 4000)
theorem zxk87 : z_chk z_TYs z_PH z_cl z_FT z_MT zxs87 [] z_PS zxm78 zxg87 zxe87 = true := by decide +kernel
theorem zxo87 : z_OK z_TB z_cl z_FT z_TYs z_PH z_KX zxm78.1 zxm78.2.1 zxm78.2.2.1 zxm78.2.2.2.1 zxg87 := z_meth (mm := zxm78) (ce := zxe87) (SG := zxs87) (RO := []) (PHS := z_PS) (MT := z_MT) zxp78 (z_ks20 _ (fun _ h => List.mem_cons_of_mem _ h) _ _ _ _ (fun j r h _ => by cases h)) (fun j h => by cases h) (fun _ _ => zs_KX_p) z_phk (z_fil _ (fun _ h => absurd h List.not_mem_nil)) zxk87
def zxs88 : List (Nat × zSig) := [(78, zxg87)]
def zxe88 : zCe := ((z_KF2, z_KC2, z_KL2, z_KT2, [(5, 0)], [], [], none), [], 4000)
theorem zxk88 : z_chk z_TYs z_PH z_cl z_FT z_MT zxs88 [] z_PS zxm87 zxg88 zxe88 = true := by decide +kernel
theorem zxo88 : z_OK z_TB z_cl z_FT z_TYs z_PH z_KX zxm87.1 zxm87.2.1 zxm87.2.2.1 zxm87.2.2.2.1 zxg88 := z_meth (mm := zxm87) (ce := zxe88) (SG := zxs88) (RO := []) (PHS := z_PS) (MT := z_MT) zxp87 (z_ks2 _ (fun _ h => List.mem_cons_of_mem _ h) _ _ _ _ (fun j r h _ => by cases h)) (fun j h => by cases h) (fun _ _ => zs_KX_p) z_phk (z_fil _ (List.forall_mem_cons.mpr ⟨z_lnk zxt78 zxo87, fun _ h => absurd h List.not_mem_nil⟩)) zxk88
def zxs89 : List (Nat × zSig) := []
def zxe89 : zCe := ((z_KF2, z_KC2, z_KL2, z_KT2, [], [], [], none), [], 4000)
theorem zxk89 : z_chk z_TYs z_PH z_cl z_FT z_MT zxs89 [] z_PS zxm88 zxg89 zxe89 = true := by decide +kernel
theorem zxo89 : z_OK z_TB z_cl z_FT z_TYs z_PH z_KX zxm88.1 zxm88.2.1 zxm88.2.2.1 zxm88.2.2.2.1 zxg89 := z_meth (mm := zxm88) (ce := zxe89) (SG := zxs89) (RO := []) (PHS := z_PS) (MT := z_MT) zxp88 (z_ks2 _ (fun _ h => List.mem_cons_of_mem _ h) _ _ _ _ (fun j r h _ => by cases h)) (fun j h => by cases h) (fun _ _ => zs_KX_p) z_phk (z_fil _ (fun _ h => absurd h List.not_mem_nil)) zxk89
def zxs90 : List (Nat × zSig) := [(87, zxg88), (88, zxg89)]
def zxe90 : zCe := ((z_KF11, z_KC11, z_KL11, z_KT11, [(14, 0), (25, 1)], [], [], none), [], 4000)
theorem zxk90 : z_chk z_TYs z_PH z_cl z_FT z_MT zxs90 [] z_PS zxm86 zxg90 zxe90 = true := by decide +kernel
theorem zxo90 : z_OK z_TB z_cl z_FT z_TYs z_PH z_KX zxm86.1 zxm86.2.1 zxm86.2.2.1 zxm86.2.2.2.1 zxg90 := z_meth (mm := zxm86) (ce := zxe90) (SG := zxs90) (RO := []) (PHS := z_PS) (MT := z_MT) zxp86 (z_ks11 _ (fun _ h => List.mem_cons_of_mem _ h) _ _ _ _ (fun j r h _ => by cases h)) (fun j h => by cases h) (fun _ _ => zs_KX_p) z_phk (z_fil _ (List.forall_mem_cons.mpr ⟨z_lnk zxt87 zxo88, List.forall_mem_cons.mpr ⟨z_lnk zxt88 zxo89, fun _ h => absurd h List.not_mem_nil⟩⟩)) zxk90
def zxs91 : List (Nat × zSig) := []
def zxe91 : zCe := ((z_KF16, z_KC16, z_KL16, z_KT16, [], [], [], none), [], 4000)
theorem zxk91 : z_chk z_TYs z_PH z_cl z_FT z_MT zxs91 [] z_PS zxm91 zxg91 zxe91 = true := by decide +kernel
theorem zxo91 : z_OK z_TB z_cl z_FT z_TYs z_PH z_KX zxm91.1 zxm91.2.1 zxm91.2.2.1 zxm91.2.2.2.1 zxg91 := z_meth (mm := zxm91) (ce := zxe91) (SG := zxs91) (RO := []) (PHS := z_PS) (MT := z_MT) zxp91 (z_ks16 _ (fun _ h => List.mem_cons_of_mem _ h) _ _ _ _ (fun j r h _ => by cases h)) (fun j h => by cases h) (fun _ _ => zs_KX_p) z_phk (z_fil _ (fun _ h => absurd h List.not_mem_nil)) zxk91
def zxs92 : List (Nat × zSig) := []
def zxe92 : zCe := ((z_KF16, z_KC16, z_KL16, z_KT16, [], [], [], none), [], 4000)
theorem zxk92 : z_chk z_TYs z_PH z_cl z_FT z_MT zxs92 [] z_PS zxm37 zxg92 zxe92 = true := by decide +kernel
theorem zxo92 : z_OK z_TB z_cl z_FT z_TYs z_PH z_KX zxm37.1 zxm37.2.1 zxm37.2.2.1 zxm37.2.2.2.1 zxg92 := z_meth (mm := zxm37) (ce := zxe92) (SG := zxs92) (RO := []) (PHS := z_PS) (MT := z_MT) zxp37 (z_ks16 _ (fun _ h => List.mem_cons_of_mem _ h) _ _ _ _ (fun j r h _ => by cases h)) (fun j h => by cases h) (fun _ _ => zs_KX_p) z_phk (z_fil _ (fun _ h => absurd h List.not_mem_nil)) zxk92
def zxs93 : List (Nat × zSig) := [(91, zxg91), (37, zxg92)]
def zxe93 : zCe := ((z_KF0, z_KC0, z_KL0, z_KT0, [(3, 0), (12, 1)], [], [], none), [], 4000)
theorem zxk93 : z_chk z_TYs z_PH z_cl z_FT z_MT zxs93 [] z_PS zxm90 zxg93 zxe93 = true := by decide +kernel
theorem zxo93 : z_OK z_TB z_cl z_FT z_TYs z_PH z_KX zxm90.1 zxm90.2.1 zxm90.2.2.1 zxm90.2.2.2.1 zxg93 := z_meth (mm := zxm90) (ce := zxe93) (SG := zxs93) (RO := []) (PHS := z_PS) (MT := z_MT) zxp90 (z_ks0 _ (fun _ h => List.mem_cons_of_mem _ h) _ _ _ _ (fun j r h _ => by cases h)) (fun j h => by cases h) (fun _ _ => zs_KX_p) z_phk (z_fil _ (List.forall_mem_cons.mpr ⟨z_lnk zxt91 zxo91, List.forall_mem_cons.mpr ⟨z_lnk zxt37 zxo92, fun _ h => absurd h List.not_mem_nil⟩⟩)) zxk93
def zxs94 : List (Nat × zSig) := [(82, zxg80)]
def zxe94 : zCe := ((z_KF2, z_KC2, z_KL2, z_KT2, [(38, 0)], [], [], none), [], 4000)
theorem zxk94 : z_chk z_TYs z_PH z_cl z_FT z_MT zxs94 [] z_PS zxm92 zxg94 zxe94 = true := by decide +kernel
theorem zxo94 : z_OK z_TB z_cl z_FT z_TYs z_PH z_KX zxm92.1 zxm92.2.1 zxm92.2.2.1 zxm92.2.2.2.1 zxg94 := z_meth (mm := zxm92) (ce := zxe94) (SG := zxs94) (RO := []) (PHS := z_PS) (MT := z_MT) zxp92 (z_ks2 _ (fun _ h => List.mem_cons_of_mem _ h) _ _ _ _ (fun j r h _ => by cases h)) (fun j h => by cases h) (fun _ _ => zs_KX_p) z_phk (z_fil _ (List.forall_mem_cons.mpr ⟨z_lnk zxt82 zxo80, fun _ h => absurd h List.not_mem_nil⟩)) zxk94
def zxs96 : List (Nat × zSig) := [(94, zxg95)]
def zxe96 : zCe := ((z_KF2, z_KC2, z_KL2, z_KT2, [(33, 0)], [], [], none), [(2, ([(0, 0), (1, 1), (2, 2)], [], 3, [(0, .inr (.inl 150)), (1, .inl (.ofNat 106, .ofNat 118)), (2, .inl (.ofNat 0, .ofNat 14))], [], [], [], [], (0, 0), 0), [(0, 0, 0, 0), (0, 1, 0, 0), (1, 2, 0, 0)], (.ofNat 30, [(2, .negSucc 1)]))], 4000)
theorem zxk96 : z_chk z_TYs z_PH z_cl z_FT z_MT zxs96 [] z_PS zxm93 zxg96 zxe96 = true := by decide +kernel
theorem zxo96 : z_OK z_TB z_cl z_FT z_TYs z_PH z_KX zxm93.1 zxm93.2.1 zxm93.2.2.1 zxm93.2.2.2.1 zxg96 := z_meth (mm := zxm93) (ce := zxe96) (SG := zxs96) (RO := []) (PHS := z_PS) (MT := z_MT) zxp93 (z_ks2 _ (fun _ h => List.mem_cons_of_mem _ h) _ _ _ _ (fun j r h _ => by cases h)) (fun j h => by cases h) (fun _ _ => zs_KX_p) z_phk (z_fil _ (List.forall_mem_cons.mpr ⟨z_lnk zxt94 zxo95, fun _ h => absurd h List.not_mem_nil⟩)) zxk96
def zxs97 : List (Nat × zSig) := [(18, zxg79), (82, zxg80), (90, zxg93), (91, zxg91), (92, zxg94), (93, zxg96)]
def zxe97 : zCe := ((z_KF11, z_KC11, z_KL11, z_KT11, [(5, 0), (18, 1), (27, 2), (45, 3), (133, 4), (156, 5)], [], [], none), [], 4000)
theorem zxk97 : z_chk z_TYs z_PH z_cl z_FT z_MT zxs97 [] z_PS zxm89 zxg97 zxe97 = true := by decide +kernel
theorem zxo97 : z_OK z_TB z_cl z_FT z_TYs z_PH z_KX zxm89.1 zxm89.2.1 zxm89.2.2.1 zxm89.2.2.2.1 zxg97 := z_meth (mm := zxm89) (ce := zxe97) (SG := zxs97) (RO := []) (PHS := z_PS) (MT := z_MT) zxp89 (z_ks11 _ (fun _ h => List.mem_cons_of_mem _ h) _ _ _ _ (fun j r h _ => by cases h)) (fun j h => by cases h) (fun _ _ => zs_KX_p) z_phk (z_fil _ (List.forall_mem_cons.mpr ⟨z_lnk zxt18 zxo79, List.forall_mem_cons.mpr ⟨z_lnk zxt82 zxo80, List.forall_mem_cons.mpr ⟨z_lnk zxt90 zxo93, List.forall_mem_cons.mpr ⟨z_lnk zxt91 zxo91, List.forall_mem_cons.mpr ⟨z_lnk zxt92 zxo94, List.forall_mem_cons.mpr ⟨z_lnk zxt93 zxo96, fun _ h => absurd h List.not_mem_nil⟩⟩⟩⟩⟩⟩)) zxk97
def zxs98 : List (Nat × zSig) := [(86, zxg90), (89, zxg97)]
def zxe98 : zCe := ((z_KF11, z_KC11, z_KL11, z_KT11, [(3, 0), (21, 1)], [], [], none), [(13, ([(0, 0), (3, 3)], [], 4, [(0, .inr (.inl 162)), (1, .inl (.ofNat 0, .ofNat 23)), (2, .inl (.ofNat 0, .ofNat 11)), (3, .inl (.ofNat 0, .ofNat 24))], [], [], [], [], (0, 0), 0), [(0, 0, 0, 0), (0, 1, 0, 0), (0, 2, 0, 0), (1, 3, 0, 0)], (.ofNat 50, [(3, .negSucc 1)]))], 4000)
theorem zxk98 : z_chk z_TYs z_PH z_cl z_FT z_MT zxs98 [] z_PS zxm85 zxg98 zxe98 = true := by decide +kernel
theorem zxo98 : z_OK z_TB z_cl z_FT z_TYs z_PH z_KX zxm85.1 zxm85.2.1 zxm85.2.2.1 zxm85.2.2.2.1 zxg98 := z_meth (mm := zxm85) (ce := zxe98) (SG := zxs98) (RO := []) (PHS := z_PS) (MT := z_MT) zxp85 (z_ks11 _ (fun _ h => List.mem_cons_of_mem _ h) _ _ _ _ (fun j r h _ => by cases h)) (fun j h => by cases h) (fun _ _ => zs_KX_p) z_phk (z_fil _ (List.forall_mem_cons.mpr ⟨z_lnk zxt86 zxo90, List.forall_mem_cons.mpr ⟨z_lnk zxt89 zxo97, fun _ h => absurd h List.not_mem_nil⟩⟩)) zxk98
def zxs99 : List (Nat × zSig) := [(16, zxg31), (84, zxg86), (85, zxg98)]
def zxe99 : zCe := ((z_KF0, z_KC0, z_KL0, z_KT0, [(2, 0), (22, 1), (31, 2)], [], [], none), [], 4000)
theorem zxk99 : z_chk z_TYs z_PH z_cl z_FT z_MT zxs99 [] z_PS zxm83 zxg99 zxe99 = true := by decide +kernel
theorem zxo99 : z_OK z_TB z_cl z_FT z_TYs z_PH z_KX zxm83.1 zxm83.2.1 zxm83.2.2.1 zxm83.2.2.2.1 zxg99 := z_meth (mm := zxm83) (ce := zxe99) (SG := zxs99) (RO := []) (PHS := z_PS) (MT := z_MT) zxp83 (z_ks0 _ (fun _ h => List.mem_cons_of_mem _ h) _ _ _ _ (fun j r h _ => by cases h)) (fun j h => by cases h) (fun _ _ => zs_KX_p) z_phk (z_fil _ (List.forall_mem_cons.mpr ⟨z_lnk zxt16 zxo31, List.forall_mem_cons.mpr ⟨z_lnk zxt84 zxo86, List.forall_mem_cons.mpr ⟨z_lnk zxt85 zxo98, fun _ h => absurd h List.not_mem_nil⟩⟩⟩)) zxk99
def zxs100 : List (Nat × zSig) := []
def zxe100 : zCe := ((z_KF13, z_KC13, z_KL13, z_KT13, [], [], [], none), [], 4000)
theorem zxk100 : z_chk z_TYs z_PH z_cl z_FT z_MT zxs100 [] z_PS zxm242 zxg100 zxe100 = true := by decide +kernel
theorem zxo100 : z_OK z_TB z_cl z_FT z_TYs z_PH z_KX zxm242.1 zxm242.2.1 zxm242.2.2.1 zxm242.2.2.2.1 zxg100 := z_meth (mm := zxm242) (ce := zxe100) (SG := zxs100) (RO := []) (PHS := z_PS) (MT := z_MT) zxp242 (z_ks13 _ (fun _ h => List.mem_cons_of_mem _ h) _ _ _ _ (fun j r h _ => by cases h)) (fun j h => by cases h) (fun _ _ => zs_KX_p) z_phk (z_fil _ (fun _ h => absurd h List.not_mem_nil)) zxk100
def zxs101 : List (Nat × zSig) := []
def zxe101 : zCe := ((z_KF13, z_KC13, z_KL13, z_KT13, [], [], [], none), [], 4000)
theorem zxk101 : z_chk z_TYs z_PH z_cl z_FT z_MT zxs101 [] z_PS zxm243 zxg101 zxe101 = true := by decide +kernel
theorem zxo101 : z_OK z_TB z_cl z_FT z_TYs z_PH z_KX zxm243.1 zxm243.2.1 zxm243.2.2.1 zxm243.2.2.2.1 zxg101 := z_meth (mm := zxm243) (ce := zxe101) (SG := zxs101) (RO := []) (PHS := z_PS) (MT := z_MT) zxp243 (z_ks13 _ (fun _ h => List.mem_cons_of_mem _ h) _ _ _ _ (fun j r h _ => by cases h)) (fun j h => by cases h) (fun _ _ => zs_KX_p) z_phk (z_fil _ (fun _ h => absurd h List.not_mem_nil)) zxk101
