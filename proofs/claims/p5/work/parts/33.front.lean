/-! A run from a cut point of the law, in pieces: so many steps at once, then each state alone. -/
def z_fm2 (f : Nat × zS → Option (List (Nat × zS))) : List (Nat × zS) → Option (List (Nat × zS))
  | [] => some []
  | q :: L => match f q, z_fm2 f L with
    | some a, some b => some (a ++ b)
    | _, _ => none
def z_front (stp : Nat → zS → Option (List (Nat × zS))) (cut : Nat → zS → Bool) : Nat → List (Nat × zS) → Option (List (Nat × zS))
  | 0, L => some L
  | n + 1, L => match z_fm2 (fun q => (stp q.1 q.2).map (fun M => M.filter (fun r => !(cut r.1 r.2)))) L with
    | some M => z_front stp cut n M
    | none => none
theorem z_fm2_ok {f : Nat × zS → Option (List (Nat × zS))} : ∀ {L r : List (Nat × zS)}, z_fm2 f L = some r → ∀ s ∈ L, ∃ a, f s = some a ∧ ∀ x ∈ a, x ∈ r
  | [], _, _, s, hs => absurd hs List.not_mem_nil
  | x :: L, r, h, s, hs => by
    unfold z_fm2 at h
    split at h
    · rename_i a b ha hb
      cases h
      rcases List.mem_cons.mp hs with rfl | hs
      · exact ⟨a, ha, fun y hy => List.mem_append_left _ hy⟩
      · obtain ⟨a2, h1, h2⟩ := z_fm2_ok hb s hs
        exact ⟨a2, h1, fun y hy => List.mem_append_right _ (h2 y hy)⟩
    · cases h
theorem z_front_ok {stp : Nat → zS → Option (List (Nat × zS))} {cut : Nat → zS → Bool} {f : Nat} : ∀ {n : Nat} {L M : List (Nat × zS)}, z_front stp cut n L = some M → (∀ q ∈ M, z_run stp cut f q.1 q.2 = true) → ∀ q ∈ L, z_run stp cut (f + n) q.1 q.2 = true
  | 0, L, M, h, hM, q, hq => by
    cases h
    exact hM q hq
  | n + 1, L, M, h, hM, q, hq => by
    unfold z_front at h
    split at h
    · rename_i M1 h1
      have ih := z_front_ok h hM
      obtain ⟨a, ha, ha2⟩ := z_fm2_ok h1 q hq
      cases hst : stp q.1 q.2 with
      | none => rw [hst] at ha; cases ha
      | some Lq =>
        rw [hst] at ha
        have ha : Lq.filter (fun r => !(cut r.1 r.2)) = a := Option.some.inj ha
        show z_run stp cut (f + n + 1) q.1 q.2 = true
        unfold z_run
        rw [hst]
        refine List.all_eq_true.mpr (fun r hr => ?_)
        rw [Bool.or_eq_true]
        cases hc : cut r.1 r.2 with
        | true => exact Or.inl rfl
        | false =>
          refine Or.inr (ih r (ha2 r ?_))
          rw [← ha]
          exact List.mem_filter.mpr ⟨hr, by rw [hc]; rfl⟩
    · cases h
def zl_fr (TY : List zTy) (PHI : List (List Nat)) (cl : List vw_C) (FT : Nat → Nat → FieldType) (MT : List zM) (SG : List (Nat × zSig)) (PHS : List Nat) (R : Room) (nL mc ms : Nat) (cc : ByteArray) (ce : zCe) (k : zCu) (n : Nat) : Option (List (Nat × zS)) := z_front (z_hst (zl_hk cc) (z_stp TY PHI cl FT MT SG [] PHS R false nL ce.1 cc (fun _ => false) (zl_fin mc ms))) (z_cut ce.2.1 8 (some k.2.2.2)) n [(k.1, k.2.1)]
/-- so many states -/
def zl_chkN (TY : List zTy) (PHI : List (List Nat)) (cl : List vw_C) (FT : Nat → Nat → FieldType) (MT : List zM) (SG : List (Nat × zSig)) (PHS : List Nat) (R : Room) (nL mc ms : Nat) (cc : ByteArray) (ce : zCe) (k : zCu) (n N : Nat) : Bool := k.2.2.2.2.all (fun q => Nat.blt q.1 (z_n k.2.1)) && (match zl_fr TY PHI cl FT MT SG PHS R nL mc ms cc ce k n with
  | some L => Nat.ble L.length N
  | none => false)
/-- those from a on, so many -/
def zl_chkI (TY : List zTy) (PHI : List (List Nat)) (cl : List vw_C) (FT : Nat → Nat → FieldType) (MT : List zM) (SG : List (Nat × zSig)) (PHS : List Nat) (R : Room) (nL mc ms : Nat) (cc : ByteArray) (ce : zCe) (k : zCu) (n a N : Nat) : Bool := match zl_fr TY PHI cl FT MT SG PHS R nL mc ms cc ce k n with
  | some L => ((L.drop a).take N).all (fun q => z_run (z_hst (zl_hk cc) (z_stp TY PHI cl FT MT SG [] PHS R false nL ce.1 cc (fun _ => false) (zl_fin mc ms))) (z_cut ce.2.1 8 (some k.2.2.2)) (ce.2.2 - n) q.1 q.2)
  | none => false
section ZFRONT
variable {R : Room} {cc : ByteArray} {cl : List vw_C} {FT : Nat → Nat → FieldType} {TY : List zTy} {PHI : List (List Nat)} {nL : Nat} {MT : List zM} {SG : List (Nat × zSig)} {PHS : List Nat} {ce : zCe} {mc ms : Nat} {k : zCu} {n : Nat}
/-- the states from a on -/
def zl_from (TY : List zTy) (PHI : List (List Nat)) (cl : List vw_C) (FT : Nat → Nat → FieldType) (MT : List zM) (SG : List (Nat × zSig)) (PHS : List Nat) (R : Room) (nL mc ms : Nat) (cc : ByteArray) (ce : zCe) (k : zCu) (n a : Nat) : Prop := ∀ L, zl_fr TY PHI cl FT MT SG PHS R nL mc ms cc ce k n = some L → ∀ q ∈ L.drop a, z_run (z_hst (zl_hk cc) (z_stp TY PHI cl FT MT SG [] PHS R false nL ce.1 cc (fun _ => false) (zl_fin mc ms))) (z_cut ce.2.1 8 (some k.2.2.2)) (ce.2.2 - n) q.1 q.2 = true
theorem zl_from_end {N : Nat} (h : zl_chkN TY PHI cl FT MT SG PHS R nL mc ms cc ce k n N = true) : zl_from TY PHI cl FT MT SG PHS R nL mc ms cc ce k n N := by
  intro L hL q hq
  unfold zl_chkN at h
  rw [hL, Bool.and_eq_true] at h
  have := Nat.le_of_ble_eq_true h.2
  rw [List.drop_eq_nil_of_le this] at hq
  cases hq
theorem zl_from_cons {a N : Nat} (h : zl_chkI TY PHI cl FT MT SG PHS R nL mc ms cc ce k n a N = true) (h2 : zl_from TY PHI cl FT MT SG PHS R nL mc ms cc ce k n (a + N)) : zl_from TY PHI cl FT MT SG PHS R nL mc ms cc ce k n a := by
  intro L hL q hq
  unfold zl_chkI at h
  rw [hL] at h
  have h : ((L.drop a).take N).all _ = true := h
  rw [← List.take_append_drop N (L.drop a), List.drop_drop] at hq
  rcases List.mem_append.mp hq with hq | hq
  · exact List.all_eq_true.mp h q hq
  · exact h2 L hL q hq
theorem zl_chk1 {N : Nat} (hn : n ≤ ce.2.2) (hN : zl_chkN TY PHI cl FT MT SG PHS R nL mc ms cc ce k n N = true) (h : zl_from TY PHI cl FT MT SG PHS R nL mc ms cc ce k n 0) : zl_chkP TY PHI cl FT MT SG PHS R nL mc ms cc ce [k] = true := by
  unfold zl_chkN at hN
  rw [Bool.and_eq_true] at hN
  obtain ⟨h1, h2⟩ := hN
  split at h2
  · rename_i L hL
    have h3 := z_front_ok hL (fun q hq => h L hL q hq) (k.1, k.2.1) (List.mem_singleton.mpr rfl)
    have e : ce.2.2 - n + n = ce.2.2 := by omega
    rw [e] at h3
    unfold zl_chkP
    rw [List.all_cons, List.all_nil, Bool.and_true, Bool.and_eq_true]
    exact ⟨h1, h3⟩
  · cases h2
end ZFRONT
