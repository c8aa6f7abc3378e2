/-! String constants over named cells. -/
section ZVSTR
variable {cl : List vw_C} {FT : Nat → Nat → FieldType} {own own2 tx : String} {k1 k2 n : Nat} {TBL : List Cond} {MT : List zM} {y : zNL} {mm : zM} {K : zK} {rm : Nat × Nat} {good : Nat → List zNV → List zNV → List zNV → List (Int → Int) → Prop}
variable {pc : Nat} {L S : List zNV} {F : List zNV} {G : List (Int → Int)}
theorem zv_ldcs (hB : zv_B cl FT (zs_KX own tx k1 n mm.1.cls k2) TBL MT y mm K rm good) (hd : decode mm.2.1 pc = .ok (.ldc k2, 2)) (k : good (pc + 2) L (.inr 902 :: S) F G) : good pc L S F G := by
  obtain ⟨p, l, e, R, s, m, args, below, meth, c, Q, OB, D, DA, sz, A, H0, Ts, cells, slots, ⟨hx, hb, hml, hD, hKS⟩, ⟨hsz, hXp, hX, -⟩, ⟨hwf, hinj, hge, hOB⟩, hg⟩ := hB
  refine (hg _ _ _ _ _).mpr fun H locs ls stk h1 h2 h3 h4 h5 => ?_
  obtain ⟨-, f, g1, -⟩ := hX
  exact va_ldcS hx hb hD.2.1 g1 hd ((hg _ _ _ _ _).mp k H locs ls _ h1 h2 h3 h4 ⟨_, _, rfl, (congrArg Value.ref (hOB 2)).symm, h5⟩)
theorem zs_X0 {OB : Nat → Nat} {sz : Nat} {s : State} {H0 H : Heap} {locs : List Loc} (hX : zs_KX own tx k1 n own2 k2 OB sz s H0) (h3 : va_S (fun q => sz ≤ q) H0 H locs) : zs_K3 own2 tx k2 n OB sz s H := zs_K3_p.2.1 s H0 H hX.2 h3.1 h3.2.1
end ZVSTR
