/-! Certificates. -/
def zxs34 : List (Nat × zSig) := []
def zxe34 : zCe := ((z_KF13, z_KC13, z_KL13, z_KT13, [], [], [], none), [], 4000)
theorem zxk34 : z_chk z_TYs z_PH z_cl z_FT z_MT zxs34 [] z_PS zxm104 zxg34 zxe34 = true := by decide +kernel
theorem zxo34 : z_OK z_TB z_cl z_FT z_TYs z_PH z_KX zxm104.1 zxm104.2.1 zxm104.2.2.1 zxm104.2.2.2.1 zxg34 := z_meth (mm := zxm104) (ce := zxe34) (SG := zxs34) (RO := []) (PHS := z_PS) (MT := z_MT) zxp104 (z_ks13 _ (fun _ h => List.mem_cons_of_mem _ h) _ _ _ _ (fun j r h _ => by cases h)) (fun j h => by cases h) (fun _ _ => zs_K_p) z_phk (z_fil _ (fun _ h => absurd h List.not_mem_nil)) zxk34
def zxs35 : List (Nat × zSig) := [(103, zxg27), (104, zxg34)]
def zxe35 : zCe := ((z_KF13, z_KC13, z_KL13, z_KT13, [(4, 0), (12, 1)], [], [], none), [], 4000)
theorem zxk35 : z_chk z_TYs z_PH z_cl z_FT z_MT zxs35 [] z_PS zxm102 zxg35 zxe35 = true := by decide +kernel
theorem zxo35 : z_OK z_TB z_cl z_FT z_TYs z_PH z_KX zxm102.1 zxm102.2.1 zxm102.2.2.1 zxm102.2.2.2.1 zxg35 := z_meth (mm := zxm102) (ce := zxe35) (SG := zxs35) (RO := []) (PHS := z_PS) (MT := z_MT) zxp102 (z_ks13 _ (fun _ h => List.mem_cons_of_mem _ h) _ _ _ _ (fun j r h _ => by cases h)) (fun j h => by cases h) (fun _ _ => zs_K_p) z_phk (z_fil _ (List.forall_mem_cons.mpr ⟨z_lnk zxt103 zxo27, List.forall_mem_cons.mpr ⟨z_lnk zxt104 zxo34, fun _ h => absurd h List.not_mem_nil⟩⟩)) zxk35
def zxs36 : List (Nat × zSig) := []
def zxe36 : zCe := ((z_KF13, z_KC13, z_KL13, z_KT13, [], [], [], none), [], 4000)
theorem zxk36 : z_chk z_TYs z_PH z_cl z_FT z_MT zxs36 [] z_PS zxm104 zxg36 zxe36 = true := by decide +kernel
theorem zxo36 : z_OK z_TB z_cl z_FT z_TYs z_PH z_KX zxm104.1 zxm104.2.1 zxm104.2.2.1 zxm104.2.2.2.1 zxg36 := z_meth (mm := zxm104) (ce := zxe36) (SG := zxs36) (RO := []) (PHS := z_PS) (MT := z_MT) zxp104 (z_ks13 _ (fun _ h => List.mem_cons_of_mem _ h) _ _ _ _ (fun j r h _ => by cases h)) (fun j h => by cases h) (fun _ _ => zs_K_p) z_phk (z_fil _ (fun _ h => absurd h List.not_mem_nil)) zxk36
def zxs37 : List (Nat × zSig) := []
def zxe37 : zCe := ((z_KF13, z_KC13, z_KL13, z_KT13, [], [], [], none), [], 4000)
theorem zxk37 : z_chk z_TYs z_PH z_cl z_FT z_MT zxs37 [] z_PS zxm103 zxg37 zxe37 = true := by decide +kernel
theorem zxo37 : z_OK z_TB z_cl z_FT z_TYs z_PH z_KX zxm103.1 zxm103.2.1 zxm103.2.2.1 zxm103.2.2.2.1 zxg37 := z_meth (mm := zxm103) (ce := zxe37) (SG := zxs37) (RO := []) (PHS := z_PS) (MT := z_MT) zxp103 (z_ks13 _ (fun _ h => List.mem_cons_of_mem _ h) _ _ _ _ (fun j r h _ => by cases h)) (fun j h => by cases h) (fun _ _ => zs_K_p) z_phk (z_fil _ (fun _ h => absurd h List.not_mem_nil)) zxk37
def zxs38 : List (Nat × zSig) := [(103, zxg27), (104, zxg36), (103, zxg37)]
def zxe38 : zCe := ((z_KF13, z_KC13, z_KL13, z_KT13, [(4, 0), (12, 1), (23, 2)], [], [], none), [], 4000)
theorem zxk38 : z_chk z_TYs z_PH z_cl z_FT z_MT zxs38 [] z_PS zxm102 zxg38 zxe38 = true := by decide +kernel
theorem zxo38 : z_OK z_TB z_cl z_FT z_TYs z_PH z_KX zxm102.1 zxm102.2.1 zxm102.2.2.1 zxm102.2.2.2.1 zxg38 := z_meth (mm := zxm102) (ce := zxe38) (SG := zxs38) (RO := []) (PHS := z_PS) (MT := z_MT) zxp102 (z_ks13 _ (fun _ h => List.mem_cons_of_mem _ h) _ _ _ _ (fun j r h _ => by cases h)) (fun j h => by cases h) (fun _ _ => zs_K_p) z_phk (z_fil _ (List.forall_mem_cons.mpr ⟨z_lnk zxt103 zxo27, List.forall_mem_cons.mpr ⟨z_lnk zxt104 zxo36, List.forall_mem_cons.mpr ⟨z_lnk zxt103 zxo37, fun _ h => absurd h List.not_mem_nil⟩⟩⟩)) zxk38
def zxs39 : List (Nat × zSig) := []
def zxe39 : zCe := ((z_KF13, z_KC13, z_KL13, z_KT13, [], [], [], none), [], 4000)
theorem zxk39 : z_chk z_TYs z_PH z_cl z_FT z_MT zxs39 [] z_PS zxm103 zxg39 zxe39 = true := by decide +kernel
theorem zxo39 : z_OK z_TB z_cl z_FT z_TYs z_PH z_KX zxm103.1 zxm103.2.1 zxm103.2.2.1 zxm103.2.2.2.1 zxg39 := z_meth (mm := zxm103) (ce := zxe39) (SG := zxs39) (RO := []) (PHS := z_PS) (MT := z_MT) zxp103 (z_ks13 _ (fun _ h => List.mem_cons_of_mem _ h) _ _ _ _ (fun j r h _ => by cases h)) (fun j h => by cases h) (fun _ _ => zs_K_p) z_phk (z_fil _ (fun _ h => absurd h List.not_mem_nil)) zxk39
def zxs40 : List (Nat × zSig) := [(103, zxg27), (104, zxg36), (103, zxg39)]
def zxe40 : zCe := ((z_KF13, z_KC13, z_KL13, z_KT13, [(4, 0), (12, 1), (23, 2)], [], [], none), [], 4000)
theorem zxk40 : z_chk z_TYs z_PH z_cl z_FT z_MT zxs40 [] z_PS zxm102 zxg40 zxe40 = true := by decide +kernel
theorem zxo40 : z_OK z_TB z_cl z_FT z_TYs z_PH z_KX zxm102.1 zxm102.2.1 zxm102.2.2.1 zxm102.2.2.2.1 zxg40 := z_meth (mm := zxm102) (ce := zxe40) (SG := zxs40) (RO := []) (PHS := z_PS) (MT := z_MT) zxp102 (z_ks13 _ (fun _ h => List.mem_cons_of_mem _ h) _ _ _ _ (fun j r h _ => by cases h)) (fun j h => by cases h) (fun _ _ => zs_K_p) z_phk (z_fil _ (List.forall_mem_cons.mpr ⟨z_lnk zxt103 zxo27, List.forall_mem_cons.mpr ⟨z_lnk zxt104 zxo36, List.forall_mem_cons.mpr ⟨z_lnk zxt103 zxo39, fun _ h => absurd h List.not_mem_nil⟩⟩⟩)) zxk40
def zxs41 : List (Nat × zSig) := []
def zxe41 : zCe := ((z_KF13, z_KC13, z_KL13, z_KT13, [], [], [], none), [], 4000)
theorem zxk41 : z_chk z_TYs z_PH z_cl z_FT z_MT zxs41 [] z_PS zxm103 zxg41 zxe41 = true := by decide +kernel
theorem zxo41 : z_OK z_TB z_cl z_FT z_TYs z_PH z_KX zxm103.1 zxm103.2.1 zxm103.2.2.1 zxm103.2.2.2.1 zxg41 := z_meth (mm := zxm103) (ce := zxe41) (SG := zxs41) (RO := []) (PHS := z_PS) (MT := z_MT) zxp103 (z_ks13 _ (fun _ h => List.mem_cons_of_mem _ h) _ _ _ _ (fun j r h _ => by cases h)) (fun j h => by cases h) (fun _ _ => zs_K_p) z_phk (z_fil _ (fun _ h => absurd h List.not_mem_nil)) zxk41
def zxs42 : List (Nat × zSig) := [(103, zxg27), (104, zxg36), (103, zxg41)]
def zxe42 : zCe := ((z_KF13, z_KC13, z_KL13, z_KT13, [(4, 0), (12, 1), (23, 2)], [], [(48, 1, 2, .ofNat 0)], none), [], 4000)
theorem zxk42 : z_chk z_TYs z_PH z_cl z_FT z_MT zxs42 [] z_PS zxm102 zxg42 zxe42 = true := by decide +kernel
theorem zxo42 : z_OK z_TB z_cl z_FT z_TYs z_PH z_KX zxm102.1 zxm102.2.1 zxm102.2.2.1 zxm102.2.2.2.1 zxg42 := z_meth (mm := zxm102) (ce := zxe42) (SG := zxs42) (RO := []) (PHS := z_PS) (MT := z_MT) zxp102 (z_ks13 _ (fun _ h => List.mem_cons_of_mem _ h) _ _ _ _ (fun j r h _ => by cases h)) (fun j h => by cases h) (fun _ _ => zs_K_p) z_phk (z_fil _ (List.forall_mem_cons.mpr ⟨z_lnk zxt103 zxo27, List.forall_mem_cons.mpr ⟨z_lnk zxt104 zxo36, List.forall_mem_cons.mpr ⟨z_lnk zxt103 zxo41, fun _ h => absurd h List.not_mem_nil⟩⟩⟩)) zxk42
def zxs43 : List (Nat × zSig) := []
def zxe43 : zCe := ((z_KF8, z_KC8, z_KL8, z_KT8, [], [], [], none), [], 4000)
theorem zxk43 : z_chk z_TYs z_PH z_cl z_FT z_MT zxs43 [] z_PS zxm16 zxg43 zxe43 = true := by decide +kernel
theorem zxo43 : z_OK z_TB z_cl z_FT z_TYs z_PH z_KX zxm16.1 zxm16.2.1 zxm16.2.2.1 zxm16.2.2.2.1 zxg43 := z_meth (mm := zxm16) (ce := zxe43) (SG := zxs43) (RO := []) (PHS := z_PS) (MT := z_MT) zxp16 (z_ks8 _ (fun _ h => List.mem_cons_of_mem _ h) _ _ _ _ (fun j r h _ => by cases h)) (fun j h => by cases h) (fun _ _ => zs_K_p) z_phk (z_fil _ (fun _ h => absurd h List.not_mem_nil)) zxk43
def zxs44 : List (Nat × zSig) := [(16, zxg43)]
def zxe44 : zCe := ((z_KF0, z_KC0, z_KL0, z_KT0, [(5, 0)], [], [], none), [], 4000)
theorem zxk44 : z_chk z_TYs z_PH z_cl z_FT z_MT zxs44 [] z_PS zxm15 zxg44 zxe44 = true := by decide +kernel
theorem zxo44 : z_OK z_TB z_cl z_FT z_TYs z_PH z_KX zxm15.1 zxm15.2.1 zxm15.2.2.1 zxm15.2.2.2.1 zxg44 := z_meth (mm := zxm15) (ce := zxe44) (SG := zxs44) (RO := []) (PHS := z_PS) (MT := z_MT) zxp15 (z_ks0 _ (fun _ h => List.mem_cons_of_mem _ h) _ _ _ _ (fun j r h _ => by cases h)) (fun j h => by cases h) (fun _ _ => zs_K_p) z_phk (z_fil _ (List.forall_mem_cons.mpr ⟨z_lnk zxt16 zxo43, fun _ h => absurd h List.not_mem_nil⟩)) zxk44
def zxs45 : List (Nat × zSig) := []
def zxe45 : zCe := ((z_KF13, z_KC13, z_KL13, z_KT13, [], [], [], none), [], 4000)
theorem zxk45 : z_chk z_TYs z_PH z_cl z_FT z_MT zxs45 [] z_PS zxm107 zxg45 zxe45 = true := by decide +kernel
theorem zxo45 : z_OK z_TB z_cl z_FT z_TYs z_PH z_KX zxm107.1 zxm107.2.1 zxm107.2.2.1 zxm107.2.2.2.1 zxg45 := z_meth (mm := zxm107) (ce := zxe45) (SG := zxs45) (RO := []) (PHS := z_PS) (MT := z_MT) zxp107 (z_ks13 _ (fun _ h => List.mem_cons_of_mem _ h) _ _ _ _ (fun j r h _ => by cases h)) (fun j h => by cases h) (fun _ _ => zs_K_p) z_phk (z_fil _ (fun _ h => absurd h List.not_mem_nil)) zxk45
def zxs46 : List (Nat × zSig) := [(107, zxg45)]
def zxe46 : zCe := ((z_KF13, z_KC13, z_KL13, z_KT13, [(18, 0)], [], [], none), [], 4000)
theorem zxk46 : z_chk z_TYs z_PH z_cl z_FT z_MT zxs46 [] z_PS zxm106 zxg46 zxe46 = true := by decide +kernel
theorem zxo46 : z_OK z_TB z_cl z_FT z_TYs z_PH z_KX zxm106.1 zxm106.2.1 zxm106.2.2.1 zxm106.2.2.2.1 zxg46 := z_meth (mm := zxm106) (ce := zxe46) (SG := zxs46) (RO := []) (PHS := z_PS) (MT := z_MT) zxp106 (z_ks13 _ (fun _ h => List.mem_cons_of_mem _ h) _ _ _ _ (fun j r h _ => by cases h)) (fun j h => by cases h) (fun _ _ => zs_K_p) z_phk (z_fil _ (List.forall_mem_cons.mpr ⟨z_lnk zxt107 zxo45, fun _ h => absurd h List.not_mem_nil⟩)) zxk46
def zxs47 : List (Nat × zSig) := [(106, zxg46)]
def zxe47 : zCe := ((z_KF13, z_KC13, z_KL13, z_KT13, [(2, 0)], [], [], none), [], 4000)
theorem zxk47 : z_chk z_TYs z_PH z_cl z_FT z_MT zxs47 [] z_PS zxm105 zxg47 zxe47 = true := by decide +kernel
theorem zxo47 : z_OK z_TB z_cl z_FT z_TYs z_PH z_KX zxm105.1 zxm105.2.1 zxm105.2.2.1 zxm105.2.2.2.1 zxg47 := z_meth (mm := zxm105) (ce := zxe47) (SG := zxs47) (RO := []) (PHS := z_PS) (MT := z_MT) zxp105 (z_ks13 _ (fun _ h => List.mem_cons_of_mem _ h) _ _ _ _ (fun j r h _ => by cases h)) (fun j h => by cases h) (fun _ _ => zs_K_p) z_phk (z_fil _ (List.forall_mem_cons.mpr ⟨z_lnk zxt106 zxo46, fun _ h => absurd h List.not_mem_nil⟩)) zxk47
def zxs48 : List (Nat × zSig) := [(16, zxg43)]
def zxe48 : zCe := ((z_KF0, z_KC0, z_KL0, z_KT0, [(5, 0)], [], [], none), [], 4000)
theorem zxk48 : z_chk z_TYs z_PH z_cl z_FT z_MT zxs48 [] z_PS zxm17 zxg48 zxe48 = true := by decide +kernel
theorem zxo48 : z_OK z_TB z_cl z_FT z_TYs z_PH z_KX zxm17.1 zxm17.2.1 zxm17.2.2.1 zxm17.2.2.2.1 zxg48 := z_meth (mm := zxm17) (ce := zxe48) (SG := zxs48) (RO := []) (PHS := z_PS) (MT := z_MT) zxp17 (z_ks0 _ (fun _ h => List.mem_cons_of_mem _ h) _ _ _ _ (fun j r h _ => by cases h)) (fun j h => by cases h) (fun _ _ => zs_K_p) z_phk (z_fil _ (List.forall_mem_cons.mpr ⟨z_lnk zxt16 zxo43, fun _ h => absurd h List.not_mem_nil⟩)) zxk48
def zxs49 : List (Nat × zSig) := [(106, zxg46)]
def zxe49 : zCe := ((z_KF13, z_KC13, z_KL13, z_KT13, [(2, 0)], [], [], none), [], 4000)
theorem zxk49 : z_chk z_TYs z_PH z_cl z_FT z_MT zxs49 [] z_PS zxm108 zxg49 zxe49 = true := by decide +kernel
theorem zxo49 : z_OK z_TB z_cl z_FT z_TYs z_PH z_KX zxm108.1 zxm108.2.1 zxm108.2.2.1 zxm108.2.2.2.1 zxg49 := z_meth (mm := zxm108) (ce := zxe49) (SG := zxs49) (RO := []) (PHS := z_PS) (MT := z_MT) zxp108 (z_ks13 _ (fun _ h => List.mem_cons_of_mem _ h) _ _ _ _ (fun j r h _ => by cases h)) (fun j h => by cases h) (fun _ _ => zs_K_p) z_phk (z_fil _ (List.forall_mem_cons.mpr ⟨z_lnk zxt106 zxo46, fun _ h => absurd h List.not_mem_nil⟩)) zxk49
def zxs50 : List (Nat × zSig) := [(13, zxg19)]
def zxe50 : zCe := ((z_KF0, z_KC0, z_KL0, z_KT0, [(4, 0)], [], [(11, 1, 1, .ofNat 0), (17, 1, 1, .ofNat 0)], none), [], 4000)
theorem zxk50 : z_chk z_TYs z_PH z_cl z_FT z_MT zxs50 [] z_PS zxm18 zxg50 zxe50 = true := by decide +kernel
theorem zxo50 : z_OK z_TB z_cl z_FT z_TYs z_PH z_KX zxm18.1 zxm18.2.1 zxm18.2.2.1 zxm18.2.2.2.1 zxg50 := z_meth (mm := zxm18) (ce := zxe50) (SG := zxs50) (RO := []) (PHS := z_PS) (MT := z_MT) zxp18 (z_ks0 _ (fun _ h => List.mem_cons_of_mem _ h) _ _ _ _ (fun j r h _ => by cases h)) (fun j h => by cases h) (fun _ _ => zs_K_p) z_phk (z_fil _ (List.forall_mem_cons.mpr ⟨z_lnk zxt13 zxo19, fun _ h => absurd h List.not_mem_nil⟩)) zxk50
def zxs51 : List (Nat × zSig) := [(103, zxg23)]
def zxe51 : zCe := ((z_KF13, z_KC13, z_KL13, z_KT13, [(4, 0)], [], [], none), [], 4000)
theorem zxk51 : z_chk z_TYs z_PH z_cl z_FT z_MT zxs51 [] z_PS zxm109 zxg51 zxe51 = true := by decide +kernel
theorem zxo51 : z_OK z_TB z_cl z_FT z_TYs z_PH z_KX zxm109.1 zxm109.2.1 zxm109.2.2.1 zxm109.2.2.2.1 zxg51 := z_meth (mm := zxm109) (ce := zxe51) (SG := zxs51) (RO := []) (PHS := z_PS) (MT := z_MT) zxp109 (z_ks13 _ (fun _ h => List.mem_cons_of_mem _ h) _ _ _ _ (fun j r h _ => by cases h)) (fun j h => by cases h) (fun _ _ => zs_K_p) z_phk (z_fil _ (List.forall_mem_cons.mpr ⟨z_lnk zxt103 zxo23, fun _ h => absurd h List.not_mem_nil⟩)) zxk51
def zxs52 : List (Nat × zSig) := [(103, zxg25)]
def zxe52 : zCe := ((z_KF13, z_KC13, z_KL13, z_KT13, [(4, 0)], [], [], none), [], 4000)
theorem zxk52 : z_chk z_TYs z_PH z_cl z_FT z_MT zxs52 [] z_PS zxm109 zxg52 zxe52 = true := by decide +kernel
theorem zxo52 : z_OK z_TB z_cl z_FT z_TYs z_PH z_KX zxm109.1 zxm109.2.1 zxm109.2.2.1 zxm109.2.2.2.1 zxg52 := z_meth (mm := zxm109) (ce := zxe52) (SG := zxs52) (RO := []) (PHS := z_PS) (MT := z_MT) zxp109 (z_ks13 _ (fun _ h => List.mem_cons_of_mem _ h) _ _ _ _ (fun j r h _ => by cases h)) (fun j h => by cases h) (fun _ _ => zs_K_p) z_phk (z_fil _ (List.forall_mem_cons.mpr ⟨z_lnk zxt103 zxo25, fun _ h => absurd h List.not_mem_nil⟩)) zxk52
def zxs53 : List (Nat × zSig) := [(103, zxg27)]
def zxe53 : zCe := ((z_KF13, z_KC13, z_KL13, z_KT13, [(4, 0)], [], [(20, 1, 2, .ofNat 0)], none), [], 4000)
theorem zxk53 : z_chk z_TYs z_PH z_cl z_FT z_MT zxs53 [] z_PS zxm109 zxg53 zxe53 = true := by decide +kernel
theorem zxo53 : z_OK z_TB z_cl z_FT z_TYs z_PH z_KX zxm109.1 zxm109.2.1 zxm109.2.2.1 zxm109.2.2.2.1 zxg53 := z_meth (mm := zxm109) (ce := zxe53) (SG := zxs53) (RO := []) (PHS := z_PS) (MT := z_MT) zxp109 (z_ks13 _ (fun _ h => List.mem_cons_of_mem _ h) _ _ _ _ (fun j r h _ => by cases h)) (fun j h => by cases h) (fun _ _ => zs_K_p) z_phk (z_fil _ (List.forall_mem_cons.mpr ⟨z_lnk zxt103 zxo27, fun _ h => absurd h List.not_mem_nil⟩)) zxk53
def zxs54 : List (Nat × zSig) := []
def zxe54 : zCe := ((z_KF0, z_KC0, z_KL0, z_KT0, [], [], [], none), [], 4000)
theorem zxk54 : z_chk z_TYs z_PH z_cl z_FT z_MT zxs54 [] z_PS zxm13 zxg54 zxe54 = true := by decide +kernel
theorem zxo54 : z_OK z_TB z_cl z_FT z_TYs z_PH z_KX zxm13.1 zxm13.2.1 zxm13.2.2.1 zxm13.2.2.2.1 zxg54 := z_meth (mm := zxm13) (ce := zxe54) (SG := zxs54) (RO := []) (PHS := z_PS) (MT := z_MT) zxp13 (z_ks0 _ (fun _ h => List.mem_cons_of_mem _ h) _ _ _ _ (fun j r h _ => by cases h)) (fun j h => by cases h) (fun _ _ => zs_K_p) z_phk (z_fil _ (fun _ h => absurd h List.not_mem_nil)) zxk54
def zxs55 : List (Nat × zSig) := [(13, zxg54)]
def zxe55 : zCe := ((z_KF0, z_KC0, z_KL0, z_KT0, [(4, 0)], [], [(11, 1, 1, .ofNat 0), (17, 1, 1, .ofNat 0)], none), [], 4000)
theorem zxk55 : z_chk z_TYs z_PH z_cl z_FT z_MT zxs55 [] z_PS zxm19 zxg55 zxe55 = true := by decide +kernel
theorem zxo55 : z_OK z_TB z_cl z_FT z_TYs z_PH z_KX zxm19.1 zxm19.2.1 zxm19.2.2.1 zxm19.2.2.2.1 zxg55 := z_meth (mm := zxm19) (ce := zxe55) (SG := zxs55) (RO := []) (PHS := z_PS) (MT := z_MT) zxp19 (z_ks0 _ (fun _ h => List.mem_cons_of_mem _ h) _ _ _ _ (fun j r h _ => by cases h)) (fun j h => by cases h) (fun _ _ => zs_K_p) z_phk (z_fil _ (List.forall_mem_cons.mpr ⟨z_lnk zxt13 zxo54, fun _ h => absurd h List.not_mem_nil⟩)) zxk55
def zxs56 : List (Nat × zSig) := []
def zxe56 : zCe := ((z_KF13, z_KC13, z_KL13, z_KT13, [], [], [], none), [], 4000)
theorem zxk56 : z_chk z_TYs z_PH z_cl z_FT z_MT zxs56 [] z_PS zxm103 zxg56 zxe56 = true := by decide +kernel
theorem zxo56 : z_OK z_TB z_cl z_FT z_TYs z_PH z_KX zxm103.1 zxm103.2.1 zxm103.2.2.1 zxm103.2.2.2.1 zxg56 := z_meth (mm := zxm103) (ce := zxe56) (SG := zxs56) (RO := []) (PHS := z_PS) (MT := z_MT) zxp103 (z_ks13 _ (fun _ h => List.mem_cons_of_mem _ h) _ _ _ _ (fun j r h _ => by cases h)) (fun j h => by cases h) (fun _ _ => zs_K_p) z_phk (z_fil _ (fun _ h => absurd h List.not_mem_nil)) zxk56
def zxs57 : List (Nat × zSig) := [(103, zxg56)]
def zxe57 : zCe := ((z_KF13, z_KC13, z_KL13, z_KT13, [(4, 0)], [], [], none), [], 4000)
theorem zxk57 : z_chk z_TYs z_PH z_cl z_FT z_MT zxs57 [] z_PS zxm110 zxg57 zxe57 = true := by decide +kernel
theorem zxo57 : z_OK z_TB z_cl z_FT z_TYs z_PH z_KX zxm110.1 zxm110.2.1 zxm110.2.2.1 zxm110.2.2.2.1 zxg57 := z_meth (mm := zxm110) (ce := zxe57) (SG := zxs57) (RO := []) (PHS := z_PS) (MT := z_MT) zxp110 (z_ks13 _ (fun _ h => List.mem_cons_of_mem _ h) _ _ _ _ (fun j r h _ => by cases h)) (fun j h => by cases h) (fun _ _ => zs_K_p) z_phk (z_fil _ (List.forall_mem_cons.mpr ⟨z_lnk zxt103 zxo56, fun _ h => absurd h List.not_mem_nil⟩)) zxk57
def zxs58 : List (Nat × zSig) := []
def zxe58 : zCe := ((z_KF13, z_KC13, z_KL13, z_KT13, [], [], [], none), [], 4000)
theorem zxk58 : z_chk z_TYs z_PH z_cl z_FT z_MT zxs58 [] z_PS zxm103 zxg58 zxe58 = true := by decide +kernel
theorem zxo58 : z_OK z_TB z_cl z_FT z_TYs z_PH z_KX zxm103.1 zxm103.2.1 zxm103.2.2.1 zxm103.2.2.2.1 zxg58 := z_meth (mm := zxm103) (ce := zxe58) (SG := zxs58) (RO := []) (PHS := z_PS) (MT := z_MT) zxp103 (z_ks13 _ (fun _ h => List.mem_cons_of_mem _ h) _ _ _ _ (fun j r h _ => by cases h)) (fun j h => by cases h) (fun _ _ => zs_K_p) z_phk (z_fil _ (fun _ h => absurd h List.not_mem_nil)) zxk58
def zxs59 : List (Nat × zSig) := [(103, zxg58)]
def zxe59 : zCe := ((z_KF13, z_KC13, z_KL13, z_KT13, [(4, 0)], [], [], none), [], 4000)
theorem zxk59 : z_chk z_TYs z_PH z_cl z_FT z_MT zxs59 [] z_PS zxm110 zxg59 zxe59 = true := by decide +kernel
theorem zxo59 : z_OK z_TB z_cl z_FT z_TYs z_PH z_KX zxm110.1 zxm110.2.1 zxm110.2.2.1 zxm110.2.2.2.1 zxg59 := z_meth (mm := zxm110) (ce := zxe59) (SG := zxs59) (RO := []) (PHS := z_PS) (MT := z_MT) zxp110 (z_ks13 _ (fun _ h => List.mem_cons_of_mem _ h) _ _ _ _ (fun j r h _ => by cases h)) (fun j h => by cases h) (fun _ _ => zs_K_p) z_phk (z_fil _ (List.forall_mem_cons.mpr ⟨z_lnk zxt103 zxo58, fun _ h => absurd h List.not_mem_nil⟩)) zxk59
def zxs60 : List (Nat × zSig) := []
def zxe60 : zCe := ((z_KF13, z_KC13, z_KL13, z_KT13, [], [], [], none), [], 4000)
theorem zxk60 : z_chk z_TYs z_PH z_cl z_FT z_MT zxs60 [] z_PS zxm103 zxg60 zxe60 = true := by decide +kernel
theorem zxo60 : z_OK z_TB z_cl z_FT z_TYs z_PH z_KX zxm103.1 zxm103.2.1 zxm103.2.2.1 zxm103.2.2.2.1 zxg60 := z_meth (mm := zxm103) (ce := zxe60) (SG := zxs60) (RO := []) (PHS := z_PS) (MT := z_MT) zxp103 (z_ks13 _ (fun _ h => List.mem_cons_of_mem _ h) _ _ _ _ (fun j r h _ => by cases h)) (fun j h => by cases h) (fun _ _ => zs_K_p) z_phk (z_fil _ (fun _ h => absurd h List.not_mem_nil)) zxk60
def zxs61 : List (Nat × zSig) := [(103, zxg60)]
def zxe61 : zCe := ((z_KF13, z_KC13, z_KL13, z_KT13, [(4, 0)], [], [(20, 1, 2, .ofNat 0)], none), [], 4000)
theorem zxk61 : z_chk z_TYs z_PH z_cl z_FT z_MT zxs61 [] z_PS zxm110 zxg61 zxe61 = true := by decide +kernel
theorem zxo61 : z_OK z_TB z_cl z_FT z_TYs z_PH z_KX zxm110.1 zxm110.2.1 zxm110.2.2.1 zxm110.2.2.2.1 zxg61 := z_meth (mm := zxm110) (ce := zxe61) (SG := zxs61) (RO := []) (PHS := z_PS) (MT := z_MT) zxp110 (z_ks13 _ (fun _ h => List.mem_cons_of_mem _ h) _ _ _ _ (fun j r h _ => by cases h)) (fun j h => by cases h) (fun _ _ => zs_K_p) z_phk (z_fil _ (List.forall_mem_cons.mpr ⟨z_lnk zxt103 zxo60, fun _ h => absurd h List.not_mem_nil⟩)) zxk61
def zxs62 : List (Nat × zSig) := []
def zxe62 : zCe := ((z_KF0, z_KC0, z_KL0, z_KT0, [], [], [], none), [], 4000)
theorem zxk62 : z_chk z_TYs z_PH z_cl z_FT z_MT zxs62 [] z_PS zxm13 zxg62 zxe62 = true := by decide +kernel
theorem zxo62 : z_OK z_TB z_cl z_FT z_TYs z_PH z_KX zxm13.1 zxm13.2.1 zxm13.2.2.1 zxm13.2.2.2.1 zxg62 := z_meth (mm := zxm13) (ce := zxe62) (SG := zxs62) (RO := []) (PHS := z_PS) (MT := z_MT) zxp13 (z_ks0 _ (fun _ h => List.mem_cons_of_mem _ h) _ _ _ _ (fun j r h _ => by cases h)) (fun j h => by cases h) (fun _ _ => zs_K_p) z_phk (z_fil _ (fun _ h => absurd h List.not_mem_nil)) zxk62
def zxs63 : List (Nat × zSig) := [(13, zxg62)]
def zxe63 : zCe := ((z_KF0, z_KC0, z_KL0, z_KT0, [(4, 0), (14, 0)], [], [(21, 1, 1, .ofNat 0), (27, 1, 1, .ofNat 0)], none), [], 4000)
theorem zxk63 : z_chk z_TYs z_PH z_cl z_FT z_MT zxs63 [] z_PS zxm20 zxg63 zxe63 = true := by decide +kernel
theorem zxo63 : z_OK z_TB z_cl z_FT z_TYs z_PH z_KX zxm20.1 zxm20.2.1 zxm20.2.2.1 zxm20.2.2.2.1 zxg63 := z_meth (mm := zxm20) (ce := zxe63) (SG := zxs63) (RO := []) (PHS := z_PS) (MT := z_MT) zxp20 (z_ks0 _ (fun _ h => List.mem_cons_of_mem _ h) _ _ _ _ (fun j r h _ => by cases h)) (fun j h => by cases h) (fun _ _ => zs_K_p) z_phk (z_fil _ (List.forall_mem_cons.mpr ⟨z_lnk zxt13 zxo62, fun _ h => absurd h List.not_mem_nil⟩)) zxk63
def zxs64 : List (Nat × zSig) := []
def zxe64 : zCe := ((z_KF13, z_KC13, z_KL13, z_KT13, [], [], [], none), [], 4000)
theorem zxk64 : z_chk z_TYs z_PH z_cl z_FT z_MT zxs64 [] z_PS zxm103 zxg64 zxe64 = true := by decide +kernel
theorem zxo64 : z_OK z_TB z_cl z_FT z_TYs z_PH z_KX zxm103.1 zxm103.2.1 zxm103.2.2.1 zxm103.2.2.2.1 zxg64 := z_meth (mm := zxm103) (ce := zxe64) (SG := zxs64) (RO := []) (PHS := z_PS) (MT := z_MT) zxp103 (z_ks13 _ (fun _ h => List.mem_cons_of_mem _ h) _ _ _ _ (fun j r h _ => by cases h)) (fun j h => by cases h) (fun _ _ => zs_K_p) z_phk (z_fil _ (fun _ h => absurd h List.not_mem_nil)) zxk64
def zxs65 : List (Nat × zSig) := [(103, zxg64)]
def zxe65 : zCe := ((z_KF13, z_KC13, z_KL13, z_KT13, [(4, 0)], [], [], none), [], 4000)
theorem zxk65 : z_chk z_TYs z_PH z_cl z_FT z_MT zxs65 [] z_PS zxm111 zxg65 zxe65 = true := by decide +kernel
theorem zxo65 : z_OK z_TB z_cl z_FT z_TYs z_PH z_KX zxm111.1 zxm111.2.1 zxm111.2.2.1 zxm111.2.2.2.1 zxg65 := z_meth (mm := zxm111) (ce := zxe65) (SG := zxs65) (RO := []) (PHS := z_PS) (MT := z_MT) zxp111 (z_ks13 _ (fun _ h => List.mem_cons_of_mem _ h) _ _ _ _ (fun j r h _ => by cases h)) (fun j h => by cases h) (fun _ _ => zs_K_p) z_phk (z_fil _ (List.forall_mem_cons.mpr ⟨z_lnk zxt103 zxo64, fun _ h => absurd h List.not_mem_nil⟩)) zxk65
def zxs66 : List (Nat × zSig) := []
def zxe66 : zCe := ((z_KF13, z_KC13, z_KL13, z_KT13, [], [], [], none), [], 4000)
theorem zxk66 : z_chk z_TYs z_PH z_cl z_FT z_MT zxs66 [] z_PS zxm103 zxg66 zxe66 = true := by decide +kernel
theorem zxo66 : z_OK z_TB z_cl z_FT z_TYs z_PH z_KX zxm103.1 zxm103.2.1 zxm103.2.2.1 zxm103.2.2.2.1 zxg66 := z_meth (mm := zxm103) (ce := zxe66) (SG := zxs66) (RO := []) (PHS := z_PS) (MT := z_MT) zxp103 (z_ks13 _ (fun _ h => List.mem_cons_of_mem _ h) _ _ _ _ (fun j r h _ => by cases h)) (fun j h => by cases h) (fun _ _ => zs_K_p) z_phk (z_fil _ (fun _ h => absurd h List.not_mem_nil)) zxk66
def zxs67 : List (Nat × zSig) := [(103, zxg66)]
def zxe67 : zCe := ((z_KF13, z_KC13, z_KL13, z_KT13, [(4, 0)], [], [], none), [], 4000)
theorem zxk67 : z_chk z_TYs z_PH z_cl z_FT z_MT zxs67 [] z_PS zxm111 zxg67 zxe67 = true := by decide +kernel
theorem zxo67 : z_OK z_TB z_cl z_FT z_TYs z_PH z_KX zxm111.1 zxm111.2.1 zxm111.2.2.1 zxm111.2.2.2.1 zxg67 := z_meth (mm := zxm111) (ce := zxe67) (SG := zxs67) (RO := []) (PHS := z_PS) (MT := z_MT) zxp111 (z_ks13 _ (fun _ h => List.mem_cons_of_mem _ h) _ _ _ _ (fun j r h _ => by cases h)) (fun j h => by cases h) (fun _ _ => zs_K_p) z_phk (z_fil _ (List.forall_mem_cons.mpr ⟨z_lnk zxt103 zxo66, fun _ h => absurd h List.not_mem_nil⟩)) zxk67
def zxs68 : List (Nat × zSig) := []
def zxe68 : zCe := ((z_KF13, z_KC13, z_KL13, z_KT13, [], [], [], none), [], 4000)
theorem zxk68 : z_chk z_TYs z_PH z_cl z_FT z_MT zxs68 [] z_PS zxm103 zxg68 zxe68 = true := by decide +kernel
theorem zxo68 : z_OK z_TB z_cl z_FT z_TYs z_PH z_KX zxm103.1 zxm103.2.1 zxm103.2.2.1 zxm103.2.2.2.1 zxg68 := z_meth (mm := zxm103) (ce := zxe68) (SG := zxs68) (RO := []) (PHS := z_PS) (MT := z_MT) zxp103 (z_ks13 _ (fun _ h => List.mem_cons_of_mem _ h) _ _ _ _ (fun j r h _ => by cases h)) (fun j h => by cases h) (fun _ _ => zs_K_p) z_phk (z_fil _ (fun _ h => absurd h List.not_mem_nil)) zxk68
def zxs69 : List (Nat × zSig) := [(103, zxg68), (103, zxg64)]
def zxe69 : zCe := ((z_KF13, z_KC13, z_KL13, z_KT13, [(4, 0), (14, 1)], [], [], none), [], 4000)
theorem zxk69 : z_chk z_TYs z_PH z_cl z_FT z_MT zxs69 [] z_PS zxm111 zxg69 zxe69 = true := by decide +kernel
theorem zxo69 : z_OK z_TB z_cl z_FT z_TYs z_PH z_KX zxm111.1 zxm111.2.1 zxm111.2.2.1 zxm111.2.2.2.1 zxg69 := z_meth (mm := zxm111) (ce := zxe69) (SG := zxs69) (RO := []) (PHS := z_PS) (MT := z_MT) zxp111 (z_ks13 _ (fun _ h => List.mem_cons_of_mem _ h) _ _ _ _ (fun j r h _ => by cases h)) (fun j h => by cases h) (fun _ _ => zs_K_p) z_phk (z_fil _ (List.forall_mem_cons.mpr ⟨z_lnk zxt103 zxo68, List.forall_mem_cons.mpr ⟨z_lnk zxt103 zxo64, fun _ h => absurd h List.not_mem_nil⟩⟩)) zxk69
def zxs70 : List (Nat × zSig) := [(103, zxg68), (103, zxg66)]
def zxe70 : zCe := ((z_KF13, z_KC13, z_KL13, z_KT13, [(4, 0), (14, 1)], [], [], none), [], 4000)
theorem zxk70 : z_chk z_TYs z_PH z_cl z_FT z_MT zxs70 [] z_PS zxm111 zxg70 zxe70 = true := by decide +kernel
theorem zxo70 : z_OK z_TB z_cl z_FT z_TYs z_PH z_KX zxm111.1 zxm111.2.1 zxm111.2.2.1 zxm111.2.2.2.1 zxg70 := z_meth (mm := zxm111) (ce := zxe70) (SG := zxs70) (RO := []) (PHS := z_PS) (MT := z_MT) zxp111 (z_ks13 _ (fun _ h => List.mem_cons_of_mem _ h) _ _ _ _ (fun j r h _ => by cases h)) (fun j h => by cases h) (fun _ _ => zs_K_p) z_phk (z_fil _ (List.forall_mem_cons.mpr ⟨z_lnk zxt103 zxo68, List.forall_mem_cons.mpr ⟨z_lnk zxt103 zxo66, fun _ h => absurd h List.not_mem_nil⟩⟩)) zxk70
def zxs71 : List (Nat × zSig) := [(103, zxg68)]
def zxe71 : zCe := ((z_KF13, z_KC13, z_KL13, z_KT13, [(4, 0), (14, 0)], [], [(30, 1, 2, .ofNat 0)], none), [], 4000)
theorem zxk71 : z_chk z_TYs z_PH z_cl z_FT z_MT zxs71 [] z_PS zxm111 zxg71 zxe71 = true := by decide +kernel
theorem zxo71 : z_OK z_TB z_cl z_FT z_TYs z_PH z_KX zxm111.1 zxm111.2.1 zxm111.2.2.1 zxm111.2.2.2.1 zxg71 := z_meth (mm := zxm111) (ce := zxe71) (SG := zxs71) (RO := []) (PHS := z_PS) (MT := z_MT) zxp111 (z_ks13 _ (fun _ h => List.mem_cons_of_mem _ h) _ _ _ _ (fun j r h _ => by cases h)) (fun j h => by cases h) (fun _ _ => zs_K_p) z_phk (z_fil _ (List.forall_mem_cons.mpr ⟨z_lnk zxt103 zxo68, fun _ h => absurd h List.not_mem_nil⟩)) zxk71
def zxs72 : List (Nat × zSig) := []
def zxe72 : zCe := ((z_KF0, z_KC0, z_KL0, z_KT0, [], [], [], none), [], 4000)
theorem zxk72 : z_chk z_TYs z_PH z_cl z_FT z_MT zxs72 [] z_PS zxm22 zxg72 zxe72 = true := by decide +kernel
theorem zxo72 : z_OK z_TB z_cl z_FT z_TYs z_PH z_KX zxm22.1 zxm22.2.1 zxm22.2.2.1 zxm22.2.2.2.1 zxg72 := z_meth (mm := zxm22) (ce := zxe72) (SG := zxs72) (RO := []) (PHS := z_PS) (MT := z_MT) zxp22 (z_ks0 _ (fun _ h => List.mem_cons_of_mem _ h) _ _ _ _ (fun j r h _ => by cases h)) (fun j h => by cases h) (fun _ _ => zs_K_p) z_phk (z_fil _ (fun _ h => absurd h List.not_mem_nil)) zxk72
def zxs73 : List (Nat × zSig) := []
def zxe73 : zCe := ((z_KF7, z_KC7, z_KL7, z_KT7, [], [], [], none), [], 4000)
theorem zxk73 : z_chk z_TYs z_PH z_cl z_FT z_MT zxs73 [] z_PS zxm24 zxg73 zxe73 = true := by decide +kernel
theorem zxo73 : z_OK z_TB z_cl z_FT z_TYs z_PH z_KX zxm24.1 zxm24.2.1 zxm24.2.2.1 zxm24.2.2.2.1 zxg73 := z_meth (mm := zxm24) (ce := zxe73) (SG := zxs73) (RO := []) (PHS := z_PS) (MT := z_MT) zxp24 (z_ks7 _ (fun _ h => List.mem_cons_of_mem _ h) _ _ _ _ (fun j r h _ => by cases h)) (fun j h => by cases h) (fun _ _ => zs_K_p) z_phk (z_fil _ (fun _ h => absurd h List.not_mem_nil)) zxk73
def zxs74 : List (Nat × zSig) := [(24, zxg73)]
def zxe74 : zCe := ((z_KF7, z_KC7, z_KL7, z_KT7, [(10, 0)], [], [], none), [(2, ([(0, 0), (1, 1), (2, 2)], [], 3, [(0, .inr (.inl 20)), (1, .inl (.ofNat 0, .ofNat 287)), (2, .inl (.ofNat 0, .ofNat 9))], [], [], [], [], (0, 0), 0), [(0, 0, 0, 0), (0, 1, 0, 0), (1, 2, 0, 0)], (.ofNat 20, [(2, .negSucc 1)]))], 4000)
theorem zxk74 : z_chk z_TYs z_PH z_cl z_FT z_MT zxs74 [] z_PS zxm23 zxg74 zxe74 = true := by decide +kernel
theorem zxo74 : z_OK z_TB z_cl z_FT z_TYs z_PH z_KX zxm23.1 zxm23.2.1 zxm23.2.2.1 zxm23.2.2.2.1 zxg74 := z_meth (mm := zxm23) (ce := zxe74) (SG := zxs74) (RO := []) (PHS := z_PS) (MT := z_MT) zxp23 (z_ks7 _ (fun _ h => List.mem_cons_of_mem _ h) _ _ _ _ (fun j r h _ => by cases h)) (fun j h => by cases h) (fun _ _ => zs_K_p) z_phk (z_fil _ (List.forall_mem_cons.mpr ⟨z_lnk zxt24 zxo73, fun _ h => absurd h List.not_mem_nil⟩)) zxk74
def zxs75 : List (Nat × zSig) := []
def zxe75 : zCe := ((z_KF7, z_KC7, z_KL7, z_KT7, [], [], [], none), [], 4000)
theorem zxk75 : z_chk z_TYs z_PH z_cl z_FT z_MT zxs75 [] z_PS zxm25 zxg75 zxe75 = true := by decide +kernel
theorem zxo75 : z_OK z_TB z_cl z_FT z_TYs z_PH z_KX zxm25.1 zxm25.2.1 zxm25.2.2.1 zxm25.2.2.2.1 zxg75 := z_meth (mm := zxm25) (ce := zxe75) (SG := zxs75) (RO := []) (PHS := z_PS) (MT := z_MT) zxp25 (z_ks7 _ (fun _ h => List.mem_cons_of_mem _ h) _ _ _ _ (fun j r h _ => by cases h)) (fun j h => by cases h) (fun _ _ => zs_K_p) z_phk (z_fil _ (fun _ h => absurd h List.not_mem_nil)) zxk75
def zxs76 : List (Nat × zSig) := [(14, zxg20), (22, zxg72), (23, zxg74), (25, zxg75)]
def zxe76 : zCe := ((z_KF0, z_KC0, z_KL0, z_KT0, [(2, 0), (14, 1), (17, 2), (32, 3)], [], [], none), [], 4000)
theorem zxk76 : z_chk z_TYs z_PH z_cl z_FT z_MT zxs76 [] z_PS zxm21 zxg76 zxe76 = true := by decide +kernel
theorem zxo76 : z_OK z_TB z_cl z_FT z_TYs z_PH z_KX zxm21.1 zxm21.2.1 zxm21.2.2.1 zxm21.2.2.2.1 zxg76 := z_meth (mm := zxm21) (ce := zxe76) (SG := zxs76) (RO := []) (PHS := z_PS) (MT := z_MT) zxp21 (z_ks0 _ (fun _ h => List.mem_cons_of_mem _ h) _ _ _ _ (fun j r h _ => by cases h)) (fun j h => by cases h) (fun _ _ => zs_K_p) z_phk (z_fil _ (List.forall_mem_cons.mpr ⟨z_lnk zxt14 zxo20, List.forall_mem_cons.mpr ⟨z_lnk zxt22 zxo72, List.forall_mem_cons.mpr ⟨z_lnk zxt23 zxo74, List.forall_mem_cons.mpr ⟨z_lnk zxt25 zxo75, fun _ h => absurd h List.not_mem_nil⟩⟩⟩⟩)) zxk76
def zxs77 : List (Nat × zSig) := []
def zxe77 : zCe := ((z_KF7, z_KC7, z_KL7, z_KT7, [], [], [(15, 1, 1, .ofNat 0)], none), [], 4000)
theorem zxk77 : z_chk z_TYs z_PH z_cl z_FT z_MT zxs77 [] z_PS zxm25 zxg77 zxe77 = true := by decide +kernel
theorem zxo77 : z_OK z_TB z_cl z_FT z_TYs z_PH z_KX zxm25.1 zxm25.2.1 zxm25.2.2.1 zxm25.2.2.2.1 zxg77 := z_meth (mm := zxm25) (ce := zxe77) (SG := zxs77) (RO := []) (PHS := z_PS) (MT := z_MT) zxp25 (z_ks7 _ (fun _ h => List.mem_cons_of_mem _ h) _ _ _ _ (fun j r h _ => by cases h)) (fun j h => by cases h) (fun _ _ => zs_K_p) z_phk (z_fil _ (fun _ h => absurd h List.not_mem_nil)) zxk77
def zxs78 : List (Nat × zSig) := [(14, zxg20), (22, zxg72), (23, zxg74), (25, zxg77)]
def zxe78 : zCe := ((z_KF0, z_KC0, z_KL0, z_KT0, [(2, 0), (14, 1), (17, 2), (32, 3)], [], [(24, 1, 1, .ofNat 0)], none), [], 4000)
theorem zxk78 : z_chk z_TYs z_PH z_cl z_FT z_MT zxs78 [] z_PS zxm21 zxg78 zxe78 = true := by decide +kernel
theorem zxo78 : z_OK z_TB z_cl z_FT z_TYs z_PH z_KX zxm21.1 zxm21.2.1 zxm21.2.2.1 zxm21.2.2.2.1 zxg78 := z_meth (mm := zxm21) (ce := zxe78) (SG := zxs78) (RO := []) (PHS := z_PS) (MT := z_MT) zxp21 (z_ks0 _ (fun _ h => List.mem_cons_of_mem _ h) _ _ _ _ (fun j r h _ => by cases h)) (fun j h => by cases h) (fun _ _ => zs_K_p) z_phk (z_fil _ (List.forall_mem_cons.mpr ⟨z_lnk zxt14 zxo20, List.forall_mem_cons.mpr ⟨z_lnk zxt22 zxo72, List.forall_mem_cons.mpr ⟨z_lnk zxt23 zxo74, List.forall_mem_cons.mpr ⟨z_lnk zxt25 zxo77, fun _ h => absurd h List.not_mem_nil⟩⟩⟩⟩)) zxk78
def zxs79 : List (Nat × zSig) := [(104, zxg28)]
def zxe79 : zCe := ((z_KF13, z_KC13, z_KL13, z_KT13, [(2, 0)], [], [], none), [], 4000)
theorem zxk79 : z_chk z_TYs z_PH z_cl z_FT z_MT zxs79 [] z_PS zxm112 zxg79 zxe79 = true := by decide +kernel
theorem zxo79 : z_OK z_TB z_cl z_FT z_TYs z_PH z_KX zxm112.1 zxm112.2.1 zxm112.2.2.1 zxm112.2.2.2.1 zxg79 := z_meth (mm := zxm112) (ce := zxe79) (SG := zxs79) (RO := []) (PHS := z_PS) (MT := z_MT) zxp112 (z_ks13 _ (fun _ h => List.mem_cons_of_mem _ h) _ _ _ _ (fun j r h _ => by cases h)) (fun j h => by cases h) (fun _ _ => zs_K_p) z_phk (z_fil _ (List.forall_mem_cons.mpr ⟨z_lnk zxt104 zxo28, fun _ h => absurd h List.not_mem_nil⟩)) zxk79
def zxs80 : List (Nat × zSig) := [(104, zxg30)]
def zxe80 : zCe := ((z_KF13, z_KC13, z_KL13, z_KT13, [(2, 0)], [], [], none), [], 4000)
theorem zxk80 : z_chk z_TYs z_PH z_cl z_FT z_MT zxs80 [] z_PS zxm112 zxg80 zxe80 = true := by decide +kernel
theorem zxo80 : z_OK z_TB z_cl z_FT z_TYs z_PH z_KX zxm112.1 zxm112.2.1 zxm112.2.2.1 zxm112.2.2.2.1 zxg80 := z_meth (mm := zxm112) (ce := zxe80) (SG := zxs80) (RO := []) (PHS := z_PS) (MT := z_MT) zxp112 (z_ks13 _ (fun _ h => List.mem_cons_of_mem _ h) _ _ _ _ (fun j r h _ => by cases h)) (fun j h => by cases h) (fun _ _ => zs_K_p) z_phk (z_fil _ (List.forall_mem_cons.mpr ⟨z_lnk zxt104 zxo30, fun _ h => absurd h List.not_mem_nil⟩)) zxk80
def zxs81 : List (Nat × zSig) := [(104, zxg32)]
def zxe81 : zCe := ((z_KF13, z_KC13, z_KL13, z_KT13, [(2, 0)], [], [], none), [], 4000)
theorem zxk81 : z_chk z_TYs z_PH z_cl z_FT z_MT zxs81 [] z_PS zxm112 zxg81 zxe81 = true := by decide +kernel
theorem zxo81 : z_OK z_TB z_cl z_FT z_TYs z_PH z_KX zxm112.1 zxm112.2.1 zxm112.2.2.1 zxm112.2.2.2.1 zxg81 := z_meth (mm := zxm112) (ce := zxe81) (SG := zxs81) (RO := []) (PHS := z_PS) (MT := z_MT) zxp112 (z_ks13 _ (fun _ h => List.mem_cons_of_mem _ h) _ _ _ _ (fun j r h _ => by cases h)) (fun j h => by cases h) (fun _ _ => zs_K_p) z_phk (z_fil _ (List.forall_mem_cons.mpr ⟨z_lnk zxt104 zxo32, fun _ h => absurd h List.not_mem_nil⟩)) zxk81
def zxs82 : List (Nat × zSig) := [(104, zxg34)]
def zxe82 : zCe := ((z_KF13, z_KC13, z_KL13, z_KT13, [(2, 0)], [], [], none), [], 4000)
theorem zxk82 : z_chk z_TYs z_PH z_cl z_FT z_MT zxs82 [] z_PS zxm112 zxg82 zxe82 = true := by decide +kernel
theorem zxo82 : z_OK z_TB z_cl z_FT z_TYs z_PH z_KX zxm112.1 zxm112.2.1 zxm112.2.2.1 zxm112.2.2.2.1 zxg82 := z_meth (mm := zxm112) (ce := zxe82) (SG := zxs82) (RO := []) (PHS := z_PS) (MT := z_MT) zxp112 (z_ks13 _ (fun _ h => List.mem_cons_of_mem _ h) _ _ _ _ (fun j r h _ => by cases h)) (fun j h => by cases h) (fun _ _ => zs_K_p) z_phk (z_fil _ (List.forall_mem_cons.mpr ⟨z_lnk zxt104 zxo34, fun _ h => absurd h List.not_mem_nil⟩)) zxk82
def zxs83 : List (Nat × zSig) := []
def zxe83 : zCe := ((z_KF13, z_KC13, z_KL13, z_KT13, [], [], [], none), [], 4000)
theorem zxk83 : z_chk z_TYs z_PH z_cl z_FT z_MT zxs83 [] z_PS zxm107 zxg83 zxe83 = true := by decide +kernel
theorem zxo83 : z_OK z_TB z_cl z_FT z_TYs z_PH z_KX zxm107.1 zxm107.2.1 zxm107.2.2.1 zxm107.2.2.2.1 zxg83 := z_meth (mm := zxm107) (ce := zxe83) (SG := zxs83) (RO := []) (PHS := z_PS) (MT := z_MT) zxp107 (z_ks13 _ (fun _ h => List.mem_cons_of_mem _ h) _ _ _ _ (fun j r h _ => by cases h)) (fun j h => by cases h) (fun _ _ => zs_K_p) z_phk (z_fil _ (fun _ h => absurd h List.not_mem_nil)) zxk83
def zxs84 : List (Nat × zSig) := [(107, zxg83)]
def zxe84 : zCe := ((z_KF13, z_KC13, z_KL13, z_KT13, [(18, 0)], [], [], none), [], 4000)
theorem zxk84 : z_chk z_TYs z_PH z_cl z_FT z_MT zxs84 [] z_PS zxm113 zxg84 zxe84 = true := by decide +kernel
theorem zxo84 : z_OK z_TB z_cl z_FT z_TYs z_PH z_KX zxm113.1 zxm113.2.1 zxm113.2.2.1 zxm113.2.2.2.1 zxg84 := z_meth (mm := zxm113) (ce := zxe84) (SG := zxs84) (RO := []) (PHS := z_PS) (MT := z_MT) zxp113 (z_ks13 _ (fun _ h => List.mem_cons_of_mem _ h) _ _ _ _ (fun j r h _ => by cases h)) (fun j h => by cases h) (fun _ _ => zs_K_p) z_phk (z_fil _ (List.forall_mem_cons.mpr ⟨z_lnk zxt107 zxo83, fun _ h => absurd h List.not_mem_nil⟩)) zxk84
def zxs85 : List (Nat × zSig) := [(104, zxg36), (113, zxg84)]
def zxe85 : zCe := ((z_KF13, z_KC13, z_KL13, z_KT13, [(2, 0), (23, 1)], [], [], none), [(13, ([(0, 0), (1, 1), (2, 2), (3, 3), (4, 4)], [], 5, [(0, .inr (.inl 128)), (1, .inl (.ofNat 0, .ofNat 23)), (2, .inl (.ofNat 0, .ofNat 11)), (3, .inl (.ofNat 0, .ofNat 0)), (4, .inl (.ofNat 0, .ofNat 9))], [], [], [], [], (0, 0), 0), [(0, 0, 0, 0), (0, 1, 0, 0), (0, 2, 0, 0), (0, 3, 0, 0), (1, 4, 0, 0)], (.ofNat 20, [(4, .negSucc 1)]))], 4000)
theorem zxk85 : z_chk z_TYs z_PH z_cl z_FT z_MT zxs85 [] z_PS zxm112 zxg85 zxe85 = true := by decide +kernel
theorem zxo85 : z_OK z_TB z_cl z_FT z_TYs z_PH z_KX zxm112.1 zxm112.2.1 zxm112.2.2.1 zxm112.2.2.2.1 zxg85 := z_meth (mm := zxm112) (ce := zxe85) (SG := zxs85) (RO := []) (PHS := z_PS) (MT := z_MT) zxp112 (z_ks13 _ (fun _ h => List.mem_cons_of_mem _ h) _ _ _ _ (fun j r h _ => by cases h)) (fun j h => by cases h) (fun _ _ => zs_K_p) z_phk (z_fil _ (List.forall_mem_cons.mpr ⟨z_lnk zxt104 zxo36, List.forall_mem_cons.mpr ⟨z_lnk zxt113 zxo84, fun _ h => absurd h List.not_mem_nil⟩⟩)) zxk85
def zxs86 : List (Nat × zSig) := [(104, zxg28)]
def zxe86 : zCe := ((z_KF13, z_KC13, z_KL13, z_KT13, [(2, 0)], [], [], none), [], 4000)
theorem zxk86 : z_chk z_TYs z_PH z_cl z_FT z_MT zxs86 [] z_PS zxm112 zxg86 zxe86 = true := by decide +kernel
theorem zxo86 : z_OK z_TB z_cl z_FT z_TYs z_PH z_KX zxm112.1 zxm112.2.1 zxm112.2.2.1 zxm112.2.2.2.1 zxg86 := z_meth (mm := zxm112) (ce := zxe86) (SG := zxs86) (RO := []) (PHS := z_PS) (MT := z_MT) zxp112 (z_ks13 _ (fun _ h => List.mem_cons_of_mem _ h) _ _ _ _ (fun j r h _ => by cases h)) (fun j h => by cases h) (fun _ _ => zs_K_p) z_phk (z_fil _ (List.forall_mem_cons.mpr ⟨z_lnk zxt104 zxo28, fun _ h => absurd h List.not_mem_nil⟩)) zxk86
def zxs87 : List (Nat × zSig) := [(104, zxg30)]
def zxe87 : zCe := ((z_KF13, z_KC13, z_KL13, z_KT13, [(2, 0)], [], [], none), [], 4000)
theorem zxk87 : z_chk z_TYs z_PH z_cl z_FT z_MT zxs87 [] z_PS zxm112 zxg87 zxe87 = true := by decide +kernel
theorem zxo87 : z_OK z_TB z_cl z_FT z_TYs z_PH z_KX zxm112.1 zxm112.2.1 zxm112.2.2.1 zxm112.2.2.2.1 zxg87 := z_meth (mm := zxm112) (ce := zxe87) (SG := zxs87) (RO := []) (PHS := z_PS) (MT := z_MT) zxp112 (z_ks13 _ (fun _ h => List.mem_cons_of_mem _ h) _ _ _ _ (fun j r h _ => by cases h)) (fun j h => by cases h) (fun _ _ => zs_K_p) z_phk (z_fil _ (List.forall_mem_cons.mpr ⟨z_lnk zxt104 zxo30, fun _ h => absurd h List.not_mem_nil⟩)) zxk87
def zxs88 : List (Nat × zSig) := [(104, zxg32)]
def zxe88 : zCe := ((z_KF13, z_KC13, z_KL13, z_KT13, [(2, 0)], [], [], none), [], 4000)
theorem zxk88 : z_chk z_TYs z_PH z_cl z_FT z_MT zxs88 [] z_PS zxm112 zxg88 zxe88 = true := by decide +kernel
theorem zxo88 : z_OK z_TB z_cl z_FT z_TYs z_PH z_KX zxm112.1 zxm112.2.1 zxm112.2.2.1 zxm112.2.2.2.1 zxg88 := z_meth (mm := zxm112) (ce := zxe88) (SG := zxs88) (RO := []) (PHS := z_PS) (MT := z_MT) zxp112 (z_ks13 _ (fun _ h => List.mem_cons_of_mem _ h) _ _ _ _ (fun j r h _ => by cases h)) (fun j h => by cases h) (fun _ _ => zs_K_p) z_phk (z_fil _ (List.forall_mem_cons.mpr ⟨z_lnk zxt104 zxo32, fun _ h => absurd h List.not_mem_nil⟩)) zxk88
def zxs89 : List (Nat × zSig) := [(104, zxg34)]
def zxe89 : zCe := ((z_KF13, z_KC13, z_KL13, z_KT13, [(2, 0)], [], [], none), [], 4000)
theorem zxk89 : z_chk z_TYs z_PH z_cl z_FT z_MT zxs89 [] z_PS zxm112 zxg89 zxe89 = true := by decide +kernel
theorem zxo89 : z_OK z_TB z_cl z_FT z_TYs z_PH z_KX zxm112.1 zxm112.2.1 zxm112.2.2.1 zxm112.2.2.2.1 zxg89 := z_meth (mm := zxm112) (ce := zxe89) (SG := zxs89) (RO := []) (PHS := z_PS) (MT := z_MT) zxp112 (z_ks13 _ (fun _ h => List.mem_cons_of_mem _ h) _ _ _ _ (fun j r h _ => by cases h)) (fun j h => by cases h) (fun _ _ => zs_K_p) z_phk (z_fil _ (List.forall_mem_cons.mpr ⟨z_lnk zxt104 zxo34, fun _ h => absurd h List.not_mem_nil⟩)) zxk89
def zxs90 : List (Nat × zSig) := [(104, zxg36), (113, zxg84)]
def zxe90 : zCe := ((z_KF13, z_KC13, z_KL13, z_KT13, [(2, 0), (23, 1)], [], [(79, 1, 2, .ofNat 0)], none), [(13, ([(0, 0), (1, 1), (2, 2), (3, 3), (4, 4)], [], 5, [(0, .inr (.inl 128)), (1, .inl (.ofNat 0, .ofNat 23)), (2, .inl (.ofNat 0, .ofNat 11)), (3, .inl (.ofNat 1, .ofNat 1)), (4, .inl (.ofNat 0, .ofNat 9))], [], [], [], [], (0, 0), 0), [(0, 0, 0, 0), (0, 1, 0, 0), (0, 2, 0, 0), (0, 3, 0, 0), (1, 4, 0, 0)], (.ofNat 20, [(4, .negSucc 1)]))], 4000)
theorem zxk90 : z_chk z_TYs z_PH z_cl z_FT z_MT zxs90 [] z_PS zxm112 zxg90 zxe90 = true := by decide +kernel
theorem zxo90 : z_OK z_TB z_cl z_FT z_TYs z_PH z_KX zxm112.1 zxm112.2.1 zxm112.2.2.1 zxm112.2.2.2.1 zxg90 := z_meth (mm := zxm112) (ce := zxe90) (SG := zxs90) (RO := []) (PHS := z_PS) (MT := z_MT) zxp112 (z_ks13 _ (fun _ h => List.mem_cons_of_mem _ h) _ _ _ _ (fun j r h _ => by cases h)) (fun j h => by cases h) (fun _ _ => zs_K_p) z_phk (z_fil _ (List.forall_mem_cons.mpr ⟨z_lnk zxt104 zxo36, List.forall_mem_cons.mpr ⟨z_lnk zxt113 zxo84, fun _ h => absurd h List.not_mem_nil⟩⟩)) zxk90
def zxs91 : List (Nat × zSig) := []
def zxe91 : zCe := ((z_KF0, z_KC0, z_KL0, z_KT0, [], [], [], none), [], 4000)
theorem zxk91 : z_chk z_TYs z_PH z_cl z_FT z_MT zxs91 [] z_PS zxm13 zxg91 zxe91 = true := by decide +kernel
theorem zxo91 : z_OK z_TB z_cl z_FT z_TYs z_PH z_KX zxm13.1 zxm13.2.1 zxm13.2.2.1 zxm13.2.2.2.1 zxg91 := z_meth (mm := zxm13) (ce := zxe91) (SG := zxs91) (RO := []) (PHS := z_PS) (MT := z_MT) zxp13 (z_ks0 _ (fun _ h => List.mem_cons_of_mem _ h) _ _ _ _ (fun j r h _ => by cases h)) (fun j h => by cases h) (fun _ _ => zs_K_p) z_phk (z_fil _ (fun _ h => absurd h List.not_mem_nil)) zxk91
def zxs92 : List (Nat × zSig) := []
def zxe92 : zCe := ((z_KF0, z_KC0, z_KL0, z_KT0, [], [], [], none), [], 4000)
theorem zxk92 : z_chk z_TYs z_PH z_cl z_FT z_MT zxs92 [] z_PS zxm28 zxg92 zxe92 = true := by decide +kernel
theorem zxo92 : z_OK z_TB z_cl z_FT z_TYs z_PH z_KX zxm28.1 zxm28.2.1 zxm28.2.2.1 zxm28.2.2.2.1 zxg92 := z_meth (mm := zxm28) (ce := zxe92) (SG := zxs92) (RO := []) (PHS := z_PS) (MT := z_MT) zxp28 (z_ks0 _ (fun _ h => List.mem_cons_of_mem _ h) _ _ _ _ (fun j r h _ => by cases h)) (fun j h => by cases h) (fun _ _ => zs_K_p) z_phk (z_fil _ (fun _ h => absurd h List.not_mem_nil)) zxk92
