/-! A contract with its ends told as one: the answer alone. -/
def z_rle : Option zV → Option zV → Bool
  | none, none => true
  | some c, some d => z_le c d
  | _, _ => false
abbrev z_wk (g : zSig) (r : Option zV) : zSig := (g_prm g, g_raw g, g_loc g, [([], r, [], [])], g_pur g, g_mk g, g_rm g, g_ph g)
theorem z_weak {TBL : List Cond} {cl : List vw_C} {FT : Nat → Nat → FieldType} {TY : List zTy} {PHI : List (List Nat)} {KXf : (Nat → Nat) → Nat → State → Heap → Prop} {y : MethodName} {bytes : ByteArray} {maxL : Nat} {ret : Option FieldType} {g : zSig} {r : Option zV} (hr : (g_pst g).all (fun P => z_rle P.2.1 r) = true) (h : z_OK TBL cl FT TY PHI KXf y bytes maxL ret g) : z_OK TBL cl FT TY PHI KXf y bytes maxL ret (z_wk g r) := by
  intro l OB D DA sz T
  refine MetFree.mono (h l OB D DA sz T) (fun _ _ h => h) (fun _ _ _ _ _ h => h) (fun a s o s' _ hq => ⟨?_, hq.2⟩)
  obtain ⟨vals, v, T', a1, a2, a3, a4, a5, a6, a7, a8, a9, P, hP, c1, c2, c3, c4⟩ := hq.1
  refine ⟨vals, v, T', a1, a2, a3, a4, a5, a6, a7, a8, a9, ([], r, [], []), List.mem_singleton.mpr rfl, fun q hq => absurd hq List.not_mem_nil, ?_, fun q hq => absurd hq List.not_mem_nil, fun i q h _ hh => by cases hh⟩
  have h1 := List.all_eq_true.mp hr P hP
  cases hp : P.2.1 with
  | none =>
    rw [hp] at h1 c2
    cases r with
    | none => exact c2
    | some d => cases h1
  | some c =>
    rw [hp] at h1 c2
    cases r with
    | none => cases h1
    | some d =>
      cases v with
      | none => exact c2
      | some x => exact z_le_ok h1 c2
