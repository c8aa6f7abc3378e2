/-! The law up to its head. -/
def z_sL : List (Nat × zSig) := [(0, zxg17), (198, zxg18)]
def z_eL : zCe := ((z_KF12, z_KC12, z_KL12, z_KT12, [(4, 0), (12, 1)], [], [], none), [], 4000)
def z_nw : List (zLoc × zV) := [((0, 12, 0, some 131), .inl (.ofNat 4, .ofNat 4)), ((0, 12, 0, some 132), .inl (.ofNat 3, .ofNat 3)), ((0, 12, 0, some 133), .inl (.ofNat 1, .ofNat 1))]
theorem z_kS : zy_chk z_TYs z_PH z_cl z_FT z_MT z_sL z_PS room_1 4 600000 7302250 code z_eL 18 86 128 (129, 43489) z_nw ((3072 : Nat) : Int) = true := by decide +kernel
theorem z_kSL (Ts : List Cond) (hTs : ∀ w ∈ z_TB, w ∈ Ts) : z_KS Ts z_TB z_cl z_FT "StarTalesLaw" z_MT z_eL.1 := z_ks12 Ts hTs _ _ _ _ (fun j r h _ => by cases h)
set_option maxRecDepth 100000 in
theorem z_oL : ∀ g ∈ (k_CA z_eL.1).filterMap (fun a => z_sL[a.2]?), ∀ m2, z_MT[g.1]? = some m2 → z_OK z_TB z_cl z_FT z_TYs z_PH z_KX m2.1 m2.2.1 m2.2.2.1 m2.2.2.2.1 g.2 := z_fil _ (List.forall_mem_cons.mpr ⟨z_lnk zxt0 zxo17, List.forall_mem_cons.mpr ⟨z_lnk zxt198 zxo18, fun _ h => absurd h List.not_mem_nil⟩⟩)
