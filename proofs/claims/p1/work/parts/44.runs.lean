/-! Certificates. -/
def zxs93 : List (Nat × zSig) := []
def zxe93 : zCe := ((z_KF0, z_KC0, z_KL0, z_KT0, [], [], [], none), [], 4000)
theorem zxk93 : z_chk z_TYs z_PH z_cl z_FT z_MT zxs93 [] z_PS zxm29 zxg93 zxe93 = true := by decide +kernel
theorem zxo93 : z_OK z_TB z_cl z_FT z_TYs z_PH z_KX zxm29.1 zxm29.2.1 zxm29.2.2.1 zxm29.2.2.2.1 zxg93 := z_meth (mm := zxm29) (ce := zxe93) (SG := zxs93) (RO := []) (PHS := z_PS) (MT := z_MT) zxp29 (z_ks0 _ (fun _ h => List.mem_cons_of_mem _ h) _ _ _ _ (fun j r h _ => by cases h)) (fun j h => by cases h) (fun _ _ => zs_K_p) z_phk (z_fil _ (fun _ h => absurd h List.not_mem_nil)) zxk93
def zxs94 : List (Nat × zSig) := [(28, zxg92), (29, zxg93)]
def zxe94 : zCe := ((z_KF7, z_KC7, z_KL7, z_KT7, [(5, 0), (10, 1)], [], [], none), [], 4000)
theorem zxk94 : z_chk z_TYs z_PH z_cl z_FT z_MT zxs94 [] z_PS zxm27 zxg94 zxe94 = true := by decide +kernel
theorem zxo94 : z_OK z_TB z_cl z_FT z_TYs z_PH z_KX zxm27.1 zxm27.2.1 zxm27.2.2.1 zxm27.2.2.2.1 zxg94 := z_meth (mm := zxm27) (ce := zxe94) (SG := zxs94) (RO := []) (PHS := z_PS) (MT := z_MT) zxp27 (z_ks7 _ (fun _ h => List.mem_cons_of_mem _ h) _ _ _ _ (fun j r h _ => by cases h)) (fun j h => by cases h) (fun _ _ => zs_K_p) z_phk (z_fil _ (List.forall_mem_cons.mpr ⟨z_lnk zxt28 zxo92, List.forall_mem_cons.mpr ⟨z_lnk zxt29 zxo93, fun _ h => absurd h List.not_mem_nil⟩⟩)) zxk94
def zxs95 : List (Nat × zSig) := [(13, zxg91), (14, zxg20), (22, zxg72), (27, zxg94)]
def zxe95 : zCe := ((z_KF0, z_KC0, z_KL0, z_KT0, [(3, 0), (11, 1), (23, 2), (26, 3), (59, 2)], [], [(33, 1, 1, .ofNat 0), (46, 1, 1, .ofNat 0)], none), [], 4000)
theorem zxk95 : z_chk z_TYs z_PH z_cl z_FT z_MT zxs95 [] z_PS zxm26 zxg95 zxe95 = true := by decide +kernel
theorem zxo95 : z_OK z_TB z_cl z_FT z_TYs z_PH z_KX zxm26.1 zxm26.2.1 zxm26.2.2.1 zxm26.2.2.2.1 zxg95 := z_meth (mm := zxm26) (ce := zxe95) (SG := zxs95) (RO := []) (PHS := z_PS) (MT := z_MT) zxp26 (z_ks0 _ (fun _ h => List.mem_cons_of_mem _ h) _ _ _ _ (fun j r h _ => by cases h)) (fun j h => by cases h) (fun _ _ => zs_K_p) z_phk (z_fil _ (List.forall_mem_cons.mpr ⟨z_lnk zxt13 zxo91, List.forall_mem_cons.mpr ⟨z_lnk zxt14 zxo20, List.forall_mem_cons.mpr ⟨z_lnk zxt22 zxo72, List.forall_mem_cons.mpr ⟨z_lnk zxt27 zxo94, fun _ h => absurd h List.not_mem_nil⟩⟩⟩⟩)) zxk95
def zxs96 : List (Nat × zSig) := []
def zxe96 : zCe := ((z_KF13, z_KC13, z_KL13, z_KT13, [], [], [], none), [], 4000)
theorem zxk96 : z_chk z_TYs z_PH z_cl z_FT z_MT zxs96 [] z_PS zxm103 zxg96 zxe96 = true := by decide +kernel
theorem zxo96 : z_OK z_TB z_cl z_FT z_TYs z_PH z_KX zxm103.1 zxm103.2.1 zxm103.2.2.1 zxm103.2.2.2.1 zxg96 := z_meth (mm := zxm103) (ce := zxe96) (SG := zxs96) (RO := []) (PHS := z_PS) (MT := z_MT) zxp103 (z_ks13 _ (fun _ h => List.mem_cons_of_mem _ h) _ _ _ _ (fun j r h _ => by cases h)) (fun j h => by cases h) (fun _ _ => zs_K_p) z_phk (z_fil _ (fun _ h => absurd h List.not_mem_nil)) zxk96
def zxs97 : List (Nat × zSig) := [(103, zxg96)]
def zxe97 : zCe := ((z_KF13, z_KC13, z_KL13, z_KT13, [(3, 0)], [], [], none), [], 4000)
theorem zxk97 : z_chk z_TYs z_PH z_cl z_FT z_MT zxs97 [] z_PS zxm114 zxg97 zxe97 = true := by decide +kernel
theorem zxo97 : z_OK z_TB z_cl z_FT z_TYs z_PH z_KX zxm114.1 zxm114.2.1 zxm114.2.2.1 zxm114.2.2.2.1 zxg97 := z_meth (mm := zxm114) (ce := zxe97) (SG := zxs97) (RO := []) (PHS := z_PS) (MT := z_MT) zxp114 (z_ks13 _ (fun _ h => List.mem_cons_of_mem _ h) _ _ _ _ (fun j r h _ => by cases h)) (fun j h => by cases h) (fun _ _ => zs_K_p) z_phk (z_fil _ (List.forall_mem_cons.mpr ⟨z_lnk zxt103 zxo96, fun _ h => absurd h List.not_mem_nil⟩)) zxk97
def zxs98 : List (Nat × zSig) := []
def zxe98 : zCe := ((z_KF13, z_KC13, z_KL13, z_KT13, [], [], [], none), [], 4000)
theorem zxk98 : z_chk z_TYs z_PH z_cl z_FT z_MT zxs98 [] z_PS zxm103 zxg98 zxe98 = true := by decide +kernel
theorem zxo98 : z_OK z_TB z_cl z_FT z_TYs z_PH z_KX zxm103.1 zxm103.2.1 zxm103.2.2.1 zxm103.2.2.2.1 zxg98 := z_meth (mm := zxm103) (ce := zxe98) (SG := zxs98) (RO := []) (PHS := z_PS) (MT := z_MT) zxp103 (z_ks13 _ (fun _ h => List.mem_cons_of_mem _ h) _ _ _ _ (fun j r h _ => by cases h)) (fun j h => by cases h) (fun _ _ => zs_K_p) z_phk (z_fil _ (fun _ h => absurd h List.not_mem_nil)) zxk98
def zxs99 : List (Nat × zSig) := [(103, zxg98)]
def zxe99 : zCe := ((z_KF13, z_KC13, z_KL13, z_KT13, [(3, 0)], [], [], none), [], 4000)
theorem zxk99 : z_chk z_TYs z_PH z_cl z_FT z_MT zxs99 [] z_PS zxm114 zxg99 zxe99 = true := by decide +kernel
theorem zxo99 : z_OK z_TB z_cl z_FT z_TYs z_PH z_KX zxm114.1 zxm114.2.1 zxm114.2.2.1 zxm114.2.2.2.1 zxg99 := z_meth (mm := zxm114) (ce := zxe99) (SG := zxs99) (RO := []) (PHS := z_PS) (MT := z_MT) zxp114 (z_ks13 _ (fun _ h => List.mem_cons_of_mem _ h) _ _ _ _ (fun j r h _ => by cases h)) (fun j h => by cases h) (fun _ _ => zs_K_p) z_phk (z_fil _ (List.forall_mem_cons.mpr ⟨z_lnk zxt103 zxo98, fun _ h => absurd h List.not_mem_nil⟩)) zxk99
def zxs100 : List (Nat × zSig) := []
def zxe100 : zCe := ((z_KF13, z_KC13, z_KL13, z_KT13, [], [], [], none), [], 4000)
theorem zxk100 : z_chk z_TYs z_PH z_cl z_FT z_MT zxs100 [] z_PS zxm103 zxg100 zxe100 = true := by decide +kernel
theorem zxo100 : z_OK z_TB z_cl z_FT z_TYs z_PH z_KX zxm103.1 zxm103.2.1 zxm103.2.2.1 zxm103.2.2.2.1 zxg100 := z_meth (mm := zxm103) (ce := zxe100) (SG := zxs100) (RO := []) (PHS := z_PS) (MT := z_MT) zxp103 (z_ks13 _ (fun _ h => List.mem_cons_of_mem _ h) _ _ _ _ (fun j r h _ => by cases h)) (fun j h => by cases h) (fun _ _ => zs_K_p) z_phk (z_fil _ (fun _ h => absurd h List.not_mem_nil)) zxk100
def zxs101 : List (Nat × zSig) := [(103, zxg100), (104, zxg28)]
def zxe101 : zCe := ((z_KF13, z_KC13, z_KL13, z_KT13, [(3, 0), (11, 1)], [], [], none), [], 4000)
theorem zxk101 : z_chk z_TYs z_PH z_cl z_FT z_MT zxs101 [] z_PS zxm114 zxg101 zxe101 = true := by decide +kernel
theorem zxo101 : z_OK z_TB z_cl z_FT z_TYs z_PH z_KX zxm114.1 zxm114.2.1 zxm114.2.2.1 zxm114.2.2.2.1 zxg101 := z_meth (mm := zxm114) (ce := zxe101) (SG := zxs101) (RO := []) (PHS := z_PS) (MT := z_MT) zxp114 (z_ks13 _ (fun _ h => List.mem_cons_of_mem _ h) _ _ _ _ (fun j r h _ => by cases h)) (fun j h => by cases h) (fun _ _ => zs_K_p) z_phk (z_fil _ (List.forall_mem_cons.mpr ⟨z_lnk zxt103 zxo100, List.forall_mem_cons.mpr ⟨z_lnk zxt104 zxo28, fun _ h => absurd h List.not_mem_nil⟩⟩)) zxk101
def zxs102 : List (Nat × zSig) := [(103, zxg100), (104, zxg30)]
def zxe102 : zCe := ((z_KF13, z_KC13, z_KL13, z_KT13, [(3, 0), (11, 1)], [], [], none), [], 4000)
theorem zxk102 : z_chk z_TYs z_PH z_cl z_FT z_MT zxs102 [] z_PS zxm114 zxg102 zxe102 = true := by decide +kernel
theorem zxo102 : z_OK z_TB z_cl z_FT z_TYs z_PH z_KX zxm114.1 zxm114.2.1 zxm114.2.2.1 zxm114.2.2.2.1 zxg102 := z_meth (mm := zxm114) (ce := zxe102) (SG := zxs102) (RO := []) (PHS := z_PS) (MT := z_MT) zxp114 (z_ks13 _ (fun _ h => List.mem_cons_of_mem _ h) _ _ _ _ (fun j r h _ => by cases h)) (fun j h => by cases h) (fun _ _ => zs_K_p) z_phk (z_fil _ (List.forall_mem_cons.mpr ⟨z_lnk zxt103 zxo100, List.forall_mem_cons.mpr ⟨z_lnk zxt104 zxo30, fun _ h => absurd h List.not_mem_nil⟩⟩)) zxk102
def zxs103 : List (Nat × zSig) := [(103, zxg100), (104, zxg32)]
def zxe103 : zCe := ((z_KF13, z_KC13, z_KL13, z_KT13, [(3, 0), (11, 1)], [], [], none), [], 4000)
theorem zxk103 : z_chk z_TYs z_PH z_cl z_FT z_MT zxs103 [] z_PS zxm114 zxg103 zxe103 = true := by decide +kernel
theorem zxo103 : z_OK z_TB z_cl z_FT z_TYs z_PH z_KX zxm114.1 zxm114.2.1 zxm114.2.2.1 zxm114.2.2.2.1 zxg103 := z_meth (mm := zxm114) (ce := zxe103) (SG := zxs103) (RO := []) (PHS := z_PS) (MT := z_MT) zxp114 (z_ks13 _ (fun _ h => List.mem_cons_of_mem _ h) _ _ _ _ (fun j r h _ => by cases h)) (fun j h => by cases h) (fun _ _ => zs_K_p) z_phk (z_fil _ (List.forall_mem_cons.mpr ⟨z_lnk zxt103 zxo100, List.forall_mem_cons.mpr ⟨z_lnk zxt104 zxo32, fun _ h => absurd h List.not_mem_nil⟩⟩)) zxk103
def zxs104 : List (Nat × zSig) := [(103, zxg100), (104, zxg34)]
def zxe104 : zCe := ((z_KF13, z_KC13, z_KL13, z_KT13, [(3, 0), (11, 1)], [], [], none), [], 4000)
theorem zxk104 : z_chk z_TYs z_PH z_cl z_FT z_MT zxs104 [] z_PS zxm114 zxg104 zxe104 = true := by decide +kernel
theorem zxo104 : z_OK z_TB z_cl z_FT z_TYs z_PH z_KX zxm114.1 zxm114.2.1 zxm114.2.2.1 zxm114.2.2.2.1 zxg104 := z_meth (mm := zxm114) (ce := zxe104) (SG := zxs104) (RO := []) (PHS := z_PS) (MT := z_MT) zxp114 (z_ks13 _ (fun _ h => List.mem_cons_of_mem _ h) _ _ _ _ (fun j r h _ => by cases h)) (fun j h => by cases h) (fun _ _ => zs_K_p) z_phk (z_fil _ (List.forall_mem_cons.mpr ⟨z_lnk zxt103 zxo100, List.forall_mem_cons.mpr ⟨z_lnk zxt104 zxo34, fun _ h => absurd h List.not_mem_nil⟩⟩)) zxk104
def zxs105 : List (Nat × zSig) := []
def zxe105 : zCe := ((z_KF13, z_KC13, z_KL13, z_KT13, [], [], [], none), [], 4000)
theorem zxk105 : z_chk z_TYs z_PH z_cl z_FT z_MT zxs105 [] z_PS zxm115 zxg105 zxe105 = true := by decide +kernel
theorem zxo105 : z_OK z_TB z_cl z_FT z_TYs z_PH z_KX zxm115.1 zxm115.2.1 zxm115.2.2.1 zxm115.2.2.2.1 zxg105 := z_meth (mm := zxm115) (ce := zxe105) (SG := zxs105) (RO := []) (PHS := z_PS) (MT := z_MT) zxp115 (z_ks13 _ (fun _ h => List.mem_cons_of_mem _ h) _ _ _ _ (fun j r h _ => by cases h)) (fun j h => by cases h) (fun _ _ => zs_K_p) z_phk (z_fil _ (fun _ h => absurd h List.not_mem_nil)) zxk105
def zxs106 : List (Nat × zSig) := [(103, zxg100), (104, zxg36), (115, zxg105)]
def zxe106 : zCe := ((z_KF13, z_KC13, z_KL13, z_KT13, [(3, 0), (11, 1), (24, 2)], [], [(49, 1, 2, .ofNat 0)], none), [], 4000)
theorem zxk106 : z_chk z_TYs z_PH z_cl z_FT z_MT zxs106 [] z_PS zxm114 zxg106 zxe106 = true := by decide +kernel
theorem zxo106 : z_OK z_TB z_cl z_FT z_TYs z_PH z_KX zxm114.1 zxm114.2.1 zxm114.2.2.1 zxm114.2.2.2.1 zxg106 := z_meth (mm := zxm114) (ce := zxe106) (SG := zxs106) (RO := []) (PHS := z_PS) (MT := z_MT) zxp114 (z_ks13 _ (fun _ h => List.mem_cons_of_mem _ h) _ _ _ _ (fun j r h _ => by cases h)) (fun j h => by cases h) (fun _ _ => zs_K_p) z_phk (z_fil _ (List.forall_mem_cons.mpr ⟨z_lnk zxt103 zxo100, List.forall_mem_cons.mpr ⟨z_lnk zxt104 zxo36, List.forall_mem_cons.mpr ⟨z_lnk zxt115 zxo105, fun _ h => absurd h List.not_mem_nil⟩⟩⟩)) zxk106
def zxs107 : List (Nat × zSig) := []
def zxe107 : zCe := ((z_KF10, z_KC10, z_KL10, z_KT10, [], [], [(32, 1, 1, .ofNat 0)], none), [], 4000)
theorem zxk107 : z_chk z_TYs z_PH z_cl z_FT z_MT zxs107 [] z_PS zxm31 zxg107 zxe107 = true := by decide +kernel
theorem zxo107 : z_OK z_TB z_cl z_FT z_TYs z_PH z_KX zxm31.1 zxm31.2.1 zxm31.2.2.1 zxm31.2.2.2.1 zxg107 := z_meth (mm := zxm31) (ce := zxe107) (SG := zxs107) (RO := []) (PHS := z_PS) (MT := z_MT) zxp31 (z_ks10 _ (fun _ h => List.mem_cons_of_mem _ h) _ _ _ _ (fun j r h _ => by cases h)) (fun j h => by cases h) (fun _ _ => zs_K_p) z_phk (z_fil _ (fun _ h => absurd h List.not_mem_nil)) zxk107
def zxs108 : List (Nat × zSig) := []
def zxe108 : zCe := ((z_KF10, z_KC10, z_KL10, z_KT10, [], [], [], none), [], 4000)
theorem zxk108 : z_chk z_TYs z_PH z_cl z_FT z_MT zxs108 [] z_PS zxm31 zxg108 zxe108 = true := by decide +kernel
theorem zxo108 : z_OK z_TB z_cl z_FT z_TYs z_PH z_KX zxm31.1 zxm31.2.1 zxm31.2.2.1 zxm31.2.2.2.1 zxg108 := z_meth (mm := zxm31) (ce := zxe108) (SG := zxs108) (RO := []) (PHS := z_PS) (MT := z_MT) zxp31 (z_ks10 _ (fun _ h => List.mem_cons_of_mem _ h) _ _ _ _ (fun j r h _ => by cases h)) (fun j h => by cases h) (fun _ _ => zs_K_p) z_phk (z_fil _ (fun _ h => absurd h List.not_mem_nil)) zxk108
def zxs109 : List (Nat × zSig) := [(31, zxg107), (31, zxg108)]
def zxe109 : zCe := ((z_KF0, z_KC0, z_KL0, z_KT0, [(20, 0), (28, 1), (36, 1), (45, 1), (54, 1)], [], [], none), [], 4000)
theorem zxk109 : z_chk z_TYs z_PH z_cl z_FT z_MT zxs109 [] z_PS zxm30 zxg109 zxe109 = true := by decide +kernel
theorem zxo109 : z_OK z_TB z_cl z_FT z_TYs z_PH z_KX zxm30.1 zxm30.2.1 zxm30.2.2.1 zxm30.2.2.2.1 zxg109 := z_meth (mm := zxm30) (ce := zxe109) (SG := zxs109) (RO := []) (PHS := z_PS) (MT := z_MT) zxp30 (z_ks0 _ (fun _ h => List.mem_cons_of_mem _ h) _ _ _ _ (fun j r h _ => by cases h)) (fun j h => by cases h) (fun _ _ => zs_K_p) z_phk (z_fil _ (List.forall_mem_cons.mpr ⟨z_lnk zxt31 zxo107, List.forall_mem_cons.mpr ⟨z_lnk zxt31 zxo108, fun _ h => absurd h List.not_mem_nil⟩⟩)) zxk109
def zxs110 : List (Nat × zSig) := []
def zxe110 : zCe := ((z_KF13, z_KC13, z_KL13, z_KT13, [], [], [(21, 1, 2, .ofNat 0)], none), [], 4000)
theorem zxk110 : z_chk z_TYs z_PH z_cl z_FT z_MT zxs110 [] z_PS zxm117 zxg110 zxe110 = true := by decide +kernel
theorem zxo110 : z_OK z_TB z_cl z_FT z_TYs z_PH z_KX zxm117.1 zxm117.2.1 zxm117.2.2.1 zxm117.2.2.2.1 zxg110 := z_meth (mm := zxm117) (ce := zxe110) (SG := zxs110) (RO := []) (PHS := z_PS) (MT := z_MT) zxp117 (z_ks13 _ (fun _ h => List.mem_cons_of_mem _ h) _ _ _ _ (fun j r h _ => by cases h)) (fun j h => by cases h) (fun _ _ => zs_K_p) z_phk (z_fil _ (fun _ h => absurd h List.not_mem_nil)) zxk110
def zxs111 : List (Nat × zSig) := []
def zxe111 : zCe := ((z_KF13, z_KC13, z_KL13, z_KT13, [], [], [], none), [], 4000)
theorem zxk111 : z_chk z_TYs z_PH z_cl z_FT z_MT zxs111 [] z_PS zxm117 zxg111 zxe111 = true := by decide +kernel
theorem zxo111 : z_OK z_TB z_cl z_FT z_TYs z_PH z_KX zxm117.1 zxm117.2.1 zxm117.2.2.1 zxm117.2.2.2.1 zxg111 := z_meth (mm := zxm117) (ce := zxe111) (SG := zxs111) (RO := []) (PHS := z_PS) (MT := z_MT) zxp117 (z_ks13 _ (fun _ h => List.mem_cons_of_mem _ h) _ _ _ _ (fun j r h _ => by cases h)) (fun j h => by cases h) (fun _ _ => zs_K_p) z_phk (z_fil _ (fun _ h => absurd h List.not_mem_nil)) zxk111
def zxs112 : List (Nat × zSig) := [(117, zxg110), (117, zxg111)]
def zxe112 : zCe := ((z_KF13, z_KC13, z_KL13, z_KT13, [(17, 0), (22, 1), (27, 1), (33, 1), (39, 1)], [], [], none), [], 4000)
theorem zxk112 : z_chk z_TYs z_PH z_cl z_FT z_MT zxs112 [] z_PS zxm116 zxg112 zxe112 = true := by decide +kernel
theorem zxo112 : z_OK z_TB z_cl z_FT z_TYs z_PH z_KX zxm116.1 zxm116.2.1 zxm116.2.2.1 zxm116.2.2.2.1 zxg112 := z_meth (mm := zxm116) (ce := zxe112) (SG := zxs112) (RO := []) (PHS := z_PS) (MT := z_MT) zxp116 (z_ks13 _ (fun _ h => List.mem_cons_of_mem _ h) _ _ _ _ (fun j r h _ => by cases h)) (fun j h => by cases h) (fun _ _ => zs_K_p) z_phk (z_fil _ (List.forall_mem_cons.mpr ⟨z_lnk zxt117 zxo110, List.forall_mem_cons.mpr ⟨z_lnk zxt117 zxo111, fun _ h => absurd h List.not_mem_nil⟩⟩)) zxk112
def zxs113 : List (Nat × zSig) := []
def zxe113 : zCe := ((z_KF0, z_KC0, z_KL0, z_KT0, [], [], [], none), [], 4000)
theorem zxk113 : z_chk z_TYs z_PH z_cl z_FT z_MT zxs113 [] z_PS zxm13 zxg113 zxe113 = true := by decide +kernel
theorem zxo113 : z_OK z_TB z_cl z_FT z_TYs z_PH z_KX zxm13.1 zxm13.2.1 zxm13.2.2.1 zxm13.2.2.2.1 zxg113 := z_meth (mm := zxm13) (ce := zxe113) (SG := zxs113) (RO := []) (PHS := z_PS) (MT := z_MT) zxp13 (z_ks0 _ (fun _ h => List.mem_cons_of_mem _ h) _ _ _ _ (fun j r h _ => by cases h)) (fun j h => by cases h) (fun _ _ => zs_K_p) z_phk (z_fil _ (fun _ h => absurd h List.not_mem_nil)) zxk113
def zxs114 : List (Nat × zSig) := []
def zxe114 : zCe := ((z_KF10, z_KC10, z_KL10, z_KT10, [], [], [], none), [], 4000)
theorem zxk114 : z_chk z_TYs z_PH z_cl z_FT z_MT zxs114 [] z_PS zxm33 zxg114 zxe114 = true := by decide +kernel
theorem zxo114 : z_OK z_TB z_cl z_FT z_TYs z_PH z_KX zxm33.1 zxm33.2.1 zxm33.2.2.1 zxm33.2.2.2.1 zxg114 := z_meth (mm := zxm33) (ce := zxe114) (SG := zxs114) (RO := []) (PHS := z_PS) (MT := z_MT) zxp33 (z_ks10 _ (fun _ h => List.mem_cons_of_mem _ h) _ _ _ _ (fun j r h _ => by cases h)) (fun j h => by cases h) (fun _ _ => zs_K_p) z_phk (z_fil _ (fun _ h => absurd h List.not_mem_nil)) zxk114
def zxs115 : List (Nat × zSig) := [(13, zxg113), (33, zxg114)]
def zxe115 : zCe := ((z_KF0, z_KC0, z_KL0, z_KT0, [(5, 0), (16, 1)], [], [], none), [], 4000)
theorem zxk115 : z_chk z_TYs z_PH z_cl z_FT z_MT zxs115 [] z_PS zxm32 zxg115 zxe115 = true := by decide +kernel
theorem zxo115 : z_OK z_TB z_cl z_FT z_TYs z_PH z_KX zxm32.1 zxm32.2.1 zxm32.2.2.1 zxm32.2.2.2.1 zxg115 := z_meth (mm := zxm32) (ce := zxe115) (SG := zxs115) (RO := []) (PHS := z_PS) (MT := z_MT) zxp32 (z_ks0 _ (fun _ h => List.mem_cons_of_mem _ h) _ _ _ _ (fun j r h _ => by cases h)) (fun j h => by cases h) (fun _ _ => zs_K_p) z_phk (z_fil _ (List.forall_mem_cons.mpr ⟨z_lnk zxt13 zxo113, List.forall_mem_cons.mpr ⟨z_lnk zxt33 zxo114, fun _ h => absurd h List.not_mem_nil⟩⟩)) zxk115
def zxs116 : List (Nat × zSig) := []
def zxe116 : zCe := ((z_KF13, z_KC13, z_KL13, z_KT13, [], [], [], none), [], 4000)
theorem zxk116 : z_chk z_TYs z_PH z_cl z_FT z_MT zxs116 [] z_PS zxm103 zxg116 zxe116 = true := by decide +kernel
theorem zxo116 : z_OK z_TB z_cl z_FT z_TYs z_PH z_KX zxm103.1 zxm103.2.1 zxm103.2.2.1 zxm103.2.2.2.1 zxg116 := z_meth (mm := zxm103) (ce := zxe116) (SG := zxs116) (RO := []) (PHS := z_PS) (MT := z_MT) zxp103 (z_ks13 _ (fun _ h => List.mem_cons_of_mem _ h) _ _ _ _ (fun j r h _ => by cases h)) (fun j h => by cases h) (fun _ _ => zs_K_p) z_phk (z_fil _ (fun _ h => absurd h List.not_mem_nil)) zxk116
def zxs117 : List (Nat × zSig) := [(103, zxg116)]
def zxe117 : zCe := ((z_KF13, z_KC13, z_KL13, z_KT13, [(5, 0)], [], [], none), [], 4000)
theorem zxk117 : z_chk z_TYs z_PH z_cl z_FT z_MT zxs117 [] z_PS zxm118 zxg117 zxe117 = true := by decide +kernel
theorem zxo117 : z_OK z_TB z_cl z_FT z_TYs z_PH z_KX zxm118.1 zxm118.2.1 zxm118.2.2.1 zxm118.2.2.2.1 zxg117 := z_meth (mm := zxm118) (ce := zxe117) (SG := zxs117) (RO := []) (PHS := z_PS) (MT := z_MT) zxp118 (z_ks13 _ (fun _ h => List.mem_cons_of_mem _ h) _ _ _ _ (fun j r h _ => by cases h)) (fun j h => by cases h) (fun _ _ => zs_K_p) z_phk (z_fil _ (List.forall_mem_cons.mpr ⟨z_lnk zxt103 zxo116, fun _ h => absurd h List.not_mem_nil⟩)) zxk117
def zxs118 : List (Nat × zSig) := []
def zxe118 : zCe := ((z_KF0, z_KC0, z_KL0, z_KT0, [], [], [], none), [], 4000)
theorem zxk118 : z_chk z_TYs z_PH z_cl z_FT z_MT zxs118 [] z_PS zxm13 zxg118 zxe118 = true := by decide +kernel
theorem zxo118 : z_OK z_TB z_cl z_FT z_TYs z_PH z_KX zxm13.1 zxm13.2.1 zxm13.2.2.1 zxm13.2.2.2.1 zxg118 := z_meth (mm := zxm13) (ce := zxe118) (SG := zxs118) (RO := []) (PHS := z_PS) (MT := z_MT) zxp13 (z_ks0 _ (fun _ h => List.mem_cons_of_mem _ h) _ _ _ _ (fun j r h _ => by cases h)) (fun j h => by cases h) (fun _ _ => zs_K_p) z_phk (z_fil _ (fun _ h => absurd h List.not_mem_nil)) zxk118
def zxs119 : List (Nat × zSig) := []
def zxe119 : zCe := ((z_KF10, z_KC10, z_KL10, z_KT10, [], [], [], none), [], 4000)
theorem zxk119 : z_chk z_TYs z_PH z_cl z_FT z_MT zxs119 [] z_PS zxm33 zxg119 zxe119 = true := by decide +kernel
theorem zxo119 : z_OK z_TB z_cl z_FT z_TYs z_PH z_KX zxm33.1 zxm33.2.1 zxm33.2.2.1 zxm33.2.2.2.1 zxg119 := z_meth (mm := zxm33) (ce := zxe119) (SG := zxs119) (RO := []) (PHS := z_PS) (MT := z_MT) zxp33 (z_ks10 _ (fun _ h => List.mem_cons_of_mem _ h) _ _ _ _ (fun j r h _ => by cases h)) (fun j h => by cases h) (fun _ _ => zs_K_p) z_phk (z_fil _ (fun _ h => absurd h List.not_mem_nil)) zxk119
def zxs120 : List (Nat × zSig) := [(13, zxg118), (33, zxg119)]
def zxe120 : zCe := ((z_KF0, z_KC0, z_KL0, z_KT0, [(4, 0), (15, 1)], [], [], none), [], 4000)
theorem zxk120 : z_chk z_TYs z_PH z_cl z_FT z_MT zxs120 [] z_PS zxm36 zxg120 zxe120 = true := by decide +kernel
theorem zxo120 : z_OK z_TB z_cl z_FT z_TYs z_PH z_KX zxm36.1 zxm36.2.1 zxm36.2.2.1 zxm36.2.2.2.1 zxg120 := z_meth (mm := zxm36) (ce := zxe120) (SG := zxs120) (RO := []) (PHS := z_PS) (MT := z_MT) zxp36 (z_ks0 _ (fun _ h => List.mem_cons_of_mem _ h) _ _ _ _ (fun j r h _ => by cases h)) (fun j h => by cases h) (fun _ _ => zs_K_p) z_phk (z_fil _ (List.forall_mem_cons.mpr ⟨z_lnk zxt13 zxo118, List.forall_mem_cons.mpr ⟨z_lnk zxt33 zxo119, fun _ h => absurd h List.not_mem_nil⟩⟩)) zxk120
def zxs121 : List (Nat × zSig) := []
def zxe121 : zCe := ((z_KF13, z_KC13, z_KL13, z_KT13, [], [], [], none), [], 4000)
theorem zxk121 : z_chk z_TYs z_PH z_cl z_FT z_MT zxs121 [] z_PS zxm103 zxg121 zxe121 = true := by decide +kernel
theorem zxo121 : z_OK z_TB z_cl z_FT z_TYs z_PH z_KX zxm103.1 zxm103.2.1 zxm103.2.2.1 zxm103.2.2.2.1 zxg121 := z_meth (mm := zxm103) (ce := zxe121) (SG := zxs121) (RO := []) (PHS := z_PS) (MT := z_MT) zxp103 (z_ks13 _ (fun _ h => List.mem_cons_of_mem _ h) _ _ _ _ (fun j r h _ => by cases h)) (fun j h => by cases h) (fun _ _ => zs_K_p) z_phk (z_fil _ (fun _ h => absurd h List.not_mem_nil)) zxk121
def zxs122 : List (Nat × zSig) := [(103, zxg121)]
def zxe122 : zCe := ((z_KF13, z_KC13, z_KL13, z_KT13, [(4, 0)], [], [], none), [], 4000)
theorem zxk122 : z_chk z_TYs z_PH z_cl z_FT z_MT zxs122 [] z_PS zxm134 zxg122 zxe122 = true := by decide +kernel
theorem zxo122 : z_OK z_TB z_cl z_FT z_TYs z_PH z_KX zxm134.1 zxm134.2.1 zxm134.2.2.1 zxm134.2.2.2.1 zxg122 := z_meth (mm := zxm134) (ce := zxe122) (SG := zxs122) (RO := []) (PHS := z_PS) (MT := z_MT) zxp134 (z_ks13 _ (fun _ h => List.mem_cons_of_mem _ h) _ _ _ _ (fun j r h _ => by cases h)) (fun j h => by cases h) (fun _ _ => zs_K_p) z_phk (z_fil _ (List.forall_mem_cons.mpr ⟨z_lnk zxt103 zxo121, fun _ h => absurd h List.not_mem_nil⟩)) zxk122
def zxs123 : List (Nat × zSig) := [(16, zxg43)]
def zxe123 : zCe := ((z_KF0, z_KC0, z_KL0, z_KT0, [(5, 0)], [], [], none), [], 4000)
theorem zxk123 : z_chk z_TYs z_PH z_cl z_FT z_MT zxs123 [] z_PS zxm38 zxg123 zxe123 = true := by decide +kernel
theorem zxo123 : z_OK z_TB z_cl z_FT z_TYs z_PH z_KX zxm38.1 zxm38.2.1 zxm38.2.2.1 zxm38.2.2.2.1 zxg123 := z_meth (mm := zxm38) (ce := zxe123) (SG := zxs123) (RO := []) (PHS := z_PS) (MT := z_MT) zxp38 (z_ks0 _ (fun _ h => List.mem_cons_of_mem _ h) _ _ _ _ (fun j r h _ => by cases h)) (fun j h => by cases h) (fun _ _ => zs_K_p) z_phk (z_fil _ (List.forall_mem_cons.mpr ⟨z_lnk zxt16 zxo43, fun _ h => absurd h List.not_mem_nil⟩)) zxk123
def zxs124 : List (Nat × zSig) := [(106, zxg46)]
def zxe124 : zCe := ((z_KF13, z_KC13, z_KL13, z_KT13, [(2, 0)], [], [], none), [], 4000)
theorem zxk124 : z_chk z_TYs z_PH z_cl z_FT z_MT zxs124 [] z_PS zxm119 zxg124 zxe124 = true := by decide +kernel
theorem zxo124 : z_OK z_TB z_cl z_FT z_TYs z_PH z_KX zxm119.1 zxm119.2.1 zxm119.2.2.1 zxm119.2.2.2.1 zxg124 := z_meth (mm := zxm119) (ce := zxe124) (SG := zxs124) (RO := []) (PHS := z_PS) (MT := z_MT) zxp119 (z_ks13 _ (fun _ h => List.mem_cons_of_mem _ h) _ _ _ _ (fun j r h _ => by cases h)) (fun j h => by cases h) (fun _ _ => zs_K_p) z_phk (z_fil _ (List.forall_mem_cons.mpr ⟨z_lnk zxt106 zxo46, fun _ h => absurd h List.not_mem_nil⟩)) zxk124
def zxs125 : List (Nat × zSig) := []
def zxe125 : zCe := ((z_KF16, z_KC16, z_KL16, z_KT16, [], [], [], none), [(5, ([(0, 0), (1, 1), (2, 2), (3, 3)], [], 4, [(0, .inr (.inl 50)), (1, .inl (.ofNat 0, .ofNat 0)), (2, .inl (.ofNat 0, .ofNat 24)), (3, .inl (.ofNat 24, .ofNat 24))], [], [], [], [], (0, 0), 0), [(0, 0, 0, 0), (0, 1, 0, 0), (1, 2, 0, 0), (1, 3, 0, 0)], (.ofNat 50, [(2, .negSucc 1)]))], 4000)
theorem zxk125 : z_chk z_TYs z_PH z_cl z_FT z_MT zxs125 [] z_PS zxm37 zxg125 zxe125 = true := by decide +kernel
theorem zxo125 : z_OK z_TB z_cl z_FT z_TYs z_PH z_KX zxm37.1 zxm37.2.1 zxm37.2.2.1 zxm37.2.2.2.1 zxg125 := z_meth (mm := zxm37) (ce := zxe125) (SG := zxs125) (RO := []) (PHS := z_PS) (MT := z_MT) zxp37 (z_ks16 _ (fun _ h => List.mem_cons_of_mem _ h) _ _ _ _ (fun j r h _ => by cases h)) (fun j h => by cases h) (fun _ _ => zs_K_p) z_phk (z_fil _ (fun _ h => absurd h List.not_mem_nil)) zxk125
def zxs126 : List (Nat × zSig) := [(37, zxg125)]
def zxe126 : zCe := ((z_KF11, z_KC11, z_KL11, z_KT11, [(20, 0)], [], [], none), [], 4000)
theorem zxk126 : z_chk z_TYs z_PH z_cl z_FT z_MT zxs126 [] z_PS zxm40 zxg126 zxe126 = true := by decide +kernel
theorem zxo126 : z_OK z_TB z_cl z_FT z_TYs z_PH z_KX zxm40.1 zxm40.2.1 zxm40.2.2.1 zxm40.2.2.2.1 zxg126 := z_meth (mm := zxm40) (ce := zxe126) (SG := zxs126) (RO := []) (PHS := z_PS) (MT := z_MT) zxp40 (z_ks11 _ (fun _ h => List.mem_cons_of_mem _ h) _ _ _ _ (fun j r h _ => by cases h)) (fun j h => by cases h) (fun _ _ => zs_K_p) z_phk (z_fil _ (List.forall_mem_cons.mpr ⟨z_lnk zxt37 zxo125, fun _ h => absurd h List.not_mem_nil⟩)) zxk126
def zxs127 : List (Nat × zSig) := []
def zxe127 : zCe := ((z_KF16, z_KC16, z_KL16, z_KT16, [], [], [], none), [(5, ([(0, 0), (1, 1), (2, 2), (3, 3)], [], 4, [(0, .inr (.inl 32)), (1, .inl (.ofNat 0, .ofNat 0)), (2, .inl (.ofNat 0, .ofNat 13)), (3, .inl (.ofNat 13, .ofNat 13))], [], [], [], [], (0, 0), 0), [(0, 0, 0, 0), (0, 1, 0, 0), (1, 2, 0, 0), (1, 3, 0, 0)], (.ofNat 28, [(2, .negSucc 1)]))], 4000)
theorem zxk127 : z_chk z_TYs z_PH z_cl z_FT z_MT zxs127 [] z_PS zxm37 zxg127 zxe127 = true := by decide +kernel
theorem zxo127 : z_OK z_TB z_cl z_FT z_TYs z_PH z_KX zxm37.1 zxm37.2.1 zxm37.2.2.1 zxm37.2.2.2.1 zxg127 := z_meth (mm := zxm37) (ce := zxe127) (SG := zxs127) (RO := []) (PHS := z_PS) (MT := z_MT) zxp37 (z_ks16 _ (fun _ h => List.mem_cons_of_mem _ h) _ _ _ _ (fun j r h _ => by cases h)) (fun j h => by cases h) (fun _ _ => zs_K_p) z_phk (z_fil _ (fun _ h => absurd h List.not_mem_nil)) zxk127
def zxs128 : List (Nat × zSig) := [(37, zxg127)]
def zxe128 : zCe := ((z_KF2, z_KC2, z_KL2, z_KT2, [(5, 0)], [], [], none), [], 4000)
theorem zxk128 : z_chk z_TYs z_PH z_cl z_FT z_MT zxs128 [] z_PS zxm43 zxg128 zxe128 = true := by decide +kernel
theorem zxo128 : z_OK z_TB z_cl z_FT z_TYs z_PH z_KX zxm43.1 zxm43.2.1 zxm43.2.2.1 zxm43.2.2.2.1 zxg128 := z_meth (mm := zxm43) (ce := zxe128) (SG := zxs128) (RO := []) (PHS := z_PS) (MT := z_MT) zxp43 (z_ks2 _ (fun _ h => List.mem_cons_of_mem _ h) _ _ _ _ (fun j r h _ => by cases h)) (fun j h => by cases h) (fun _ _ => zs_K_p) z_phk (z_fil _ (List.forall_mem_cons.mpr ⟨z_lnk zxt37 zxo127, fun _ h => absurd h List.not_mem_nil⟩)) zxk128
def zxs129 : List (Nat × zSig) := []
def zxe129 : zCe := ((z_KF2, z_KC2, z_KL2, z_KT2, [], [], [], none), [], 4000)
theorem zxk129 : z_chk z_TYs z_PH z_cl z_FT z_MT zxs129 [] z_PS zxm44 zxg129 zxe129 = true := by decide +kernel
theorem zxo129 : z_OK z_TB z_cl z_FT z_TYs z_PH z_KX zxm44.1 zxm44.2.1 zxm44.2.2.1 zxm44.2.2.2.1 zxg129 := z_meth (mm := zxm44) (ce := zxe129) (SG := zxs129) (RO := []) (PHS := z_PS) (MT := z_MT) zxp44 (z_ks2 _ (fun _ h => List.mem_cons_of_mem _ h) _ _ _ _ (fun j r h _ => by cases h)) (fun j h => by cases h) (fun _ _ => zs_K_p) z_phk (z_fil _ (fun _ h => absurd h List.not_mem_nil)) zxk129
def zxs130 : List (Nat × zSig) := [(43, zxg128), (44, zxg129)]
def zxe130 : zCe := ((z_KF11, z_KC11, z_KL11, z_KT11, [(14, 0), (25, 1)], [], [], none), [], 4000)
theorem zxk130 : z_chk z_TYs z_PH z_cl z_FT z_MT zxs130 [] z_PS zxm42 zxg130 zxe130 = true := by decide +kernel
theorem zxo130 : z_OK z_TB z_cl z_FT z_TYs z_PH z_KX zxm42.1 zxm42.2.1 zxm42.2.2.1 zxm42.2.2.2.1 zxg130 := z_meth (mm := zxm42) (ce := zxe130) (SG := zxs130) (RO := []) (PHS := z_PS) (MT := z_MT) zxp42 (z_ks11 _ (fun _ h => List.mem_cons_of_mem _ h) _ _ _ _ (fun j r h _ => by cases h)) (fun j h => by cases h) (fun _ _ => zs_K_p) z_phk (z_fil _ (List.forall_mem_cons.mpr ⟨z_lnk zxt43 zxo128, List.forall_mem_cons.mpr ⟨z_lnk zxt44 zxo129, fun _ h => absurd h List.not_mem_nil⟩⟩)) zxk130
def zxs131 : List (Nat × zSig) := []
def zxe131 : zCe := ((z_KF8, z_KC8, z_KL8, z_KT8, [], [], [], none), [], 4000)
theorem zxk131 : z_chk z_TYs z_PH z_cl z_FT z_MT zxs131 [] z_PS zxm16 zxg131 zxe131 = true := by decide +kernel
theorem zxo131 : z_OK z_TB z_cl z_FT z_TYs z_PH z_KX zxm16.1 zxm16.2.1 zxm16.2.2.1 zxm16.2.2.2.1 zxg131 := z_meth (mm := zxm16) (ce := zxe131) (SG := zxs131) (RO := []) (PHS := z_PS) (MT := z_MT) zxp16 (z_ks8 _ (fun _ h => List.mem_cons_of_mem _ h) _ _ _ _ (fun j r h _ => by cases h)) (fun j h => by cases h) (fun _ _ => zs_K_p) z_phk (z_fil _ (fun _ h => absurd h List.not_mem_nil)) zxk131
def zxs132 : List (Nat × zSig) := [(16, zxg131)]
def zxe132 : zCe := ((z_KF11, z_KC11, z_KL11, z_KT11, [(5, 0)], [], [], none), [], 4000)
theorem zxk132 : z_chk z_TYs z_PH z_cl z_FT z_MT zxs132 [] z_PS zxm45 zxg132 zxe132 = true := by decide +kernel
theorem zxo132 : z_OK z_TB z_cl z_FT z_TYs z_PH z_KX zxm45.1 zxm45.2.1 zxm45.2.2.1 zxm45.2.2.2.1 zxg132 := z_meth (mm := zxm45) (ce := zxe132) (SG := zxs132) (RO := []) (PHS := z_PS) (MT := z_MT) zxp45 (z_ks11 _ (fun _ h => List.mem_cons_of_mem _ h) _ _ _ _ (fun j r h _ => by cases h)) (fun j h => by cases h) (fun _ _ => zs_K_p) z_phk (z_fil _ (List.forall_mem_cons.mpr ⟨z_lnk zxt16 zxo131, fun _ h => absurd h List.not_mem_nil⟩)) zxk132
def zxs133 : List (Nat × zSig) := [(42, zxg130), (45, zxg132)]
def zxe133 : zCe := ((z_KF11, z_KC11, z_KL11, z_KT11, [(3, 0), (21, 1)], [], [], none), [(13, ([(0, 0), (3, 3)], [], 4, [(0, .inr (.inl 52)), (1, .inl (.ofNat 0, .ofNat 23)), (2, .inl (.ofNat 0, .ofNat 11)), (3, .inl (.ofNat 0, .ofNat 24))], [], [], [], [], (0, 0), 0), [(0, 0, 0, 0), (0, 1, 0, 0), (0, 2, 0, 0), (1, 3, 0, 0)], (.ofNat 50, [(3, .negSucc 1)]))], 4000)
theorem zxk133 : z_chk z_TYs z_PH z_cl z_FT z_MT zxs133 [] z_PS zxm41 zxg133 zxe133 = true := by decide +kernel
theorem zxo133 : z_OK z_TB z_cl z_FT z_TYs z_PH z_KX zxm41.1 zxm41.2.1 zxm41.2.2.1 zxm41.2.2.2.1 zxg133 := z_meth (mm := zxm41) (ce := zxe133) (SG := zxs133) (RO := []) (PHS := z_PS) (MT := z_MT) zxp41 (z_ks11 _ (fun _ h => List.mem_cons_of_mem _ h) _ _ _ _ (fun j r h _ => by cases h)) (fun j h => by cases h) (fun _ _ => zs_K_p) z_phk (z_fil _ (List.forall_mem_cons.mpr ⟨z_lnk zxt42 zxo130, List.forall_mem_cons.mpr ⟨z_lnk zxt45 zxo132, fun _ h => absurd h List.not_mem_nil⟩⟩)) zxk133
def zxs134 : List (Nat × zSig) := [(14, zxg20), (40, zxg126), (41, zxg133)]
def zxe134 : zCe := ((z_KF0, z_KC0, z_KL0, z_KT0, [(2, 0), (22, 1), (31, 2)], [], [], none), [], 4000)
theorem zxk134 : z_chk z_TYs z_PH z_cl z_FT z_MT zxs134 [] z_PS zxm39 zxg134 zxe134 = true := by decide +kernel
theorem zxo134 : z_OK z_TB z_cl z_FT z_TYs z_PH z_KX zxm39.1 zxm39.2.1 zxm39.2.2.1 zxm39.2.2.2.1 zxg134 := z_meth (mm := zxm39) (ce := zxe134) (SG := zxs134) (RO := []) (PHS := z_PS) (MT := z_MT) zxp39 (z_ks0 _ (fun _ h => List.mem_cons_of_mem _ h) _ _ _ _ (fun j r h _ => by cases h)) (fun j h => by cases h) (fun _ _ => zs_K_p) z_phk (z_fil _ (List.forall_mem_cons.mpr ⟨z_lnk zxt14 zxo20, List.forall_mem_cons.mpr ⟨z_lnk zxt40 zxo126, List.forall_mem_cons.mpr ⟨z_lnk zxt41 zxo133, fun _ h => absurd h List.not_mem_nil⟩⟩⟩)) zxk134
def zxs135 : List (Nat × zSig) := [(104, zxg28)]
def zxe135 : zCe := ((z_KF13, z_KC13, z_KL13, z_KT13, [(2, 0)], [], [], none), [], 4000)
theorem zxk135 : z_chk z_TYs z_PH z_cl z_FT z_MT zxs135 [] z_PS zxm121 zxg135 zxe135 = true := by decide +kernel
theorem zxo135 : z_OK z_TB z_cl z_FT z_TYs z_PH z_KX zxm121.1 zxm121.2.1 zxm121.2.2.1 zxm121.2.2.2.1 zxg135 := z_meth (mm := zxm121) (ce := zxe135) (SG := zxs135) (RO := []) (PHS := z_PS) (MT := z_MT) zxp121 (z_ks13 _ (fun _ h => List.mem_cons_of_mem _ h) _ _ _ _ (fun j r h _ => by cases h)) (fun j h => by cases h) (fun _ _ => zs_K_p) z_phk (z_fil _ (List.forall_mem_cons.mpr ⟨z_lnk zxt104 zxo28, fun _ h => absurd h List.not_mem_nil⟩)) zxk135
