/-! The law's checks with its instructions read beforehand. -/
abbrev zqT : Type := List (Nat × Instr × Nat)
def zq_ok (cc : ByteArray) (tb : zqT) : Prop := ∀ q ∈ tb, decode cc q.1 = .ok q.2
theorem zq_nil {cc : ByteArray} : zq_ok cc [] := fun _ h => absurd h List.not_mem_nil
theorem zq_cons {cc : ByteArray} {pc : Nat} {q : Instr × Nat} {tb : zqT} (h : decode cc pc = .ok q) (k : zq_ok cc tb) : zq_ok cc ((pc, q) :: tb) := fun r hr => by
  rcases List.mem_cons.mp hr with rfl | hr
  · exact h
  · exact k r hr
def zq_get : zqT → Nat → Option (Instr × Nat)
  | [], _ => none
  | q :: L, pc => cond (Nat.beq q.1 pc) (some q.2) (zq_get L pc)
theorem zq_get_ok {cc : ByteArray} : ∀ {tb : zqT} {pc : Nat} {q : Instr × Nat}, zq_ok cc tb → zq_get tb pc = some q → decode cc pc = .ok q
  | [], _, _, _, h => by cases h
  | r :: L, pc, q, hk, h => by
    unfold zq_get at h
    cases hb : Nat.beq r.1 pc with
    | true =>
      rw [hb] at h
      cases h
      rw [← z_beq hb]
      exact hk r List.mem_cons_self
    | false =>
      rw [hb] at h
      exact zq_get_ok (fun x hx => hk x (List.mem_cons_of_mem _ hx)) h
def zq_body (TY : List zTy) (PHI : List (List Nat)) (cl : List vw_C) (FT : Nat → Nat → FieldType) (MT : List zM) (SG : List (Nat × zSig)) (RO : List Nat) (R : Room) (pu : Bool) (nL : Nat) (K : zK) (finV finI : zS → Bool) (pc : Nat) (d : Except DecodeError (Instr × Nat)) (L : List zS) : Option (List (Nat × zS)) := match d with
  | .ok (.return_, len) => cond (Nat.beq len 1 && L.all finV) (some []) none
  | .ok (.ireturn, len) => cond (Nat.beq len 1 && L.all finI) (some []) none
  | .ok (ins, len) => z_fmp (z_step TY PHI cl FT MT SG RO R pu nL K pc ins len) L
  | .error _ => none
def zq_stp (tb : zqT) (TY : List zTy) (PHI : List (List Nat)) (cl : List vw_C) (FT : Nat → Nat → FieldType) (MT : List zM) (SG : List (Nat × zSig)) (RO PHS : List Nat) (R : Room) (pu : Bool) (nL : Nat) (K : zK) (finV finI : zS → Bool) (pc : Nat) (st : zS) : Option (List (Nat × zS)) :=
  match z_acts TY PHI cl PHS pu (k_AC K) pc st with
  | some L => (match zq_get tb pc with
    | some q => zq_body TY PHI cl FT MT SG RO R pu nL K finV finI pc (.ok q) L
    | none => none)
  | none => none
theorem zq_stp_ok {tb : zqT} {TY : List zTy} {PHI : List (List Nat)} {cl : List vw_C} {FT : Nat → Nat → FieldType} {MT : List zM} {SG : List (Nat × zSig)} {RO PHS : List Nat} {R : Room} {pu : Bool} {nL : Nat} {K : zK} {finV finI : zS → Bool} {cc : ByteArray} (hk : zq_ok cc tb) {pc : Nat} {st : zS} {L : List (Nat × zS)} (h : zq_stp tb TY PHI cl FT MT SG RO PHS R pu nL K finV finI pc st = some L) : z_stp TY PHI cl FT MT SG RO PHS R pu nL K cc finV finI pc st = some L ∧ ∃ q, zq_get tb pc = some q := by
  unfold zq_stp at h
  split at h
  · rename_i L1 h1
    split at h
    · rename_i q hq
      refine ⟨?_, q, hq⟩
      have e : z_stp TY PHI cl FT MT SG RO PHS R pu nL K cc finV finI pc st = (match z_acts TY PHI cl PHS pu (k_AC K) pc st with
        | some L => zq_body TY PHI cl FT MT SG RO R pu nL K finV finI pc (decode cc pc) L
        | none => none) := rfl
      rw [e, h1, zq_get_ok hk hq]
      exact h
    · cases h
  · cases h
def zq_rd0 (pc : Nat) (st : zS) (d : Except DecodeError (Instr × Nat)) : Option (List (Nat × zS)) := match d with
  | .ok (.arraylength, 1) => (match z_S st with
    | d :: S => (match z_get (z_V st) d with
      | some (.inr (.inr 1)) => some [(pc + 1, z_stS st (1 :: S))]
      | _ => none)
    | _ => none)
  | .ok (.iaload, 1) => (match z_S st with
    | j :: d :: S => (match z_get (z_V st) d, zm_ex (z_R st) j 2, z_isi st j with
      | some (.inr (.inr 1)), some c, true => cond (z_ile 0 c && z_ile c 5 && (match z_lbs (z_R st) 6 1 j with
        | some k => z_ile 1 k
        | none => false)) (some [(pc + 1, z_stS st ((5 + c.toNat) :: S))]) none
      | _, _, _ => none)
    | _ => none)
  | _ => none
theorem zq_rd_eq {cc : ByteArray} {pc : Nat} {st : zS} : zm_rd cc pc st = zq_rd0 pc st (decode cc pc) := rfl
def zq_rd (tb : zqT) : zHk := fun pc st => match zq_get tb pc with
  | some q => zq_rd0 pc st (.ok q)
  | none => none
def zq_hk (tb : zqT) (hd : zS) (hpc : Nat) (iv : zS → Nat → Bool) : zHk := fun pc st => cond (Nat.beq pc hpc && zm_fit hd iv st) (some []) (zq_rd tb pc st)
theorem zq_mono {s1 s2 : Nat → zS → Option (List (Nat × zS))} {cut : Nat → zS → Bool} (h : ∀ pc st L, s1 pc st = some L → s2 pc st = some L) : ∀ {f pc : Nat} {st : zS}, z_run s1 cut f pc st = true → z_run s2 cut f pc st = true
  | 0, _, _, e => by cases e
  | f + 1, pc, st, e => by
    unfold z_run at e ⊢
    split at e
    · rename_i L hL
      rw [h pc st L hL]
      refine List.all_eq_true.mpr (fun q hq => ?_)
      have h1 := List.all_eq_true.mp e q hq
      rw [Bool.or_eq_true] at h1 ⊢
      rcases h1 with h1 | h1
      · exact Or.inl h1
      · exact Or.inr (zq_mono h h1)
    · cases e
section ZQ
variable {TY : List zTy} {PHI : List (List Nat)} {cl : List vw_C} {FT : Nat → Nat → FieldType} {MT : List zM} {SG : List (Nat × zSig)} {PHS : List Nat} {R : Room} {nL mc ms : Nat} {cc : ByteArray} {ce : zCe} {hd : zS} {hpc : Nat} {tb : zqT}
theorem zq_step {K : zK} (hk : zq_ok cc tb) {pc : Nat} {st : zS} {L : List (Nat × zS)} (h : z_hst (zq_hk tb hd hpc zm_iv6) (zq_stp tb TY PHI cl FT MT SG [] PHS R false nL K (fun _ => false) (zl_fin mc ms)) pc st = some L) : zm_stp TY PHI cl FT MT SG PHS R nL mc ms cc K (zm_hk cc hd hpc zm_iv6) pc st = some L := by
  unfold zm_stp
  unfold z_hst at h ⊢
  have hr : ∀ q, zq_get tb pc = some q → zq_rd tb pc st = zm_rd cc pc st := by
    intro q hq
    rw [zq_rd_eq, zq_get_ok hk hq]
    unfold zq_rd
    rw [hq]
  have hs : ∀ L2, zq_rd tb pc st = some L2 → zm_rd cc pc st = some L2 := by
    intro L2 h2
    cases hg : zq_get tb pc with
    | none => unfold zq_rd at h2; rw [hg] at h2; cases h2
    | some q => rw [← hr q hg]; exact h2
  cases hb : (Nat.beq pc hpc && zm_fit hd zm_iv6 st) with
  | true =>
    have e1 : zq_hk tb hd hpc zm_iv6 pc st = some [] := by unfold zq_hk; rw [hb]; rfl
    have e2 : zm_hk cc hd hpc zm_iv6 pc st = some [] := by unfold zm_hk; rw [hb]; rfl
    rw [e1] at h
    rw [e2]
    exact h
  | false =>
    have e1 : zq_hk tb hd hpc zm_iv6 pc st = zq_rd tb pc st := by unfold zq_hk; rw [hb]; rfl
    have e2 : zm_hk cc hd hpc zm_iv6 pc st = zm_rd cc pc st := by unfold zm_hk; rw [hb]; rfl
    rw [e1] at h
    rw [e2]
    split at h
    · rename_i L2 h2
      rw [hs L2 h2]
      exact h
    · rename_i h2
      obtain ⟨h3, q, hq⟩ := zq_stp_ok hk h
      rw [← hr q hq, h2]
      exact h3
def zq_chkP (tb : zqT) (TY : List zTy) (PHI : List (List Nat)) (cl : List vw_C) (FT : Nat → Nat → FieldType) (MT : List zM) (SG : List (Nat × zSig)) (PHS : List Nat) (R : Room) (nL mc ms : Nat) (ce : zCe) (hd : zS) (hpc : Nat) (P : List zCu) : Bool := P.all (fun k => k.2.2.2.2.all (fun q => Nat.blt q.1 (z_n k.2.1)) && z_run (z_hst (zq_hk tb hd hpc zm_iv6) (zq_stp tb TY PHI cl FT MT SG [] PHS R false nL ce.1 (fun _ => false) (zl_fin mc ms))) (z_cut ce.2.1 11 (some k.2.2.2)) ce.2.2 k.1 k.2.1)
theorem zq_chkP_ok (hk : zq_ok cc tb) {P : List zCu} (h : zq_chkP tb TY PHI cl FT MT SG PHS R nL mc ms ce hd hpc P = true) : zm_chkP TY PHI cl FT MT SG PHS R nL mc ms cc ce hd hpc P = true := by
  refine List.all_eq_true.mpr (fun k hk2 => ?_)
  have h1 := List.all_eq_true.mp h k hk2
  rw [Bool.and_eq_true] at h1 ⊢
  exact ⟨h1.1, zq_mono (fun pc st L => zq_step hk) h1.2⟩
def zq_chk0 (tb : zqT) (TY : List zTy) (PHI : List (List Nat)) (cl : List vw_C) (FT : Nat → Nat → FieldType) (MT : List zM) (SG : List (Nat × zSig)) (PHS : List Nat) (R : Room) (nL mc ms : Nat) (ce : zCe) (hd : zS) (hpc : Nat) : Bool := z_run (z_hst (zq_hk tb hd hpc zm_iv6) (zq_stp tb TY PHI cl FT MT SG [] PHS R false nL ce.1 (fun _ => false) (zl_fin mc ms))) (z_cut ce.2.1 11 none) ce.2.2 hpc (zm_hB hd)
theorem zq_chk0_ok (hk : zq_ok cc tb) (h : zq_chk0 tb TY PHI cl FT MT SG PHS R nL mc ms ce hd hpc = true) : zm_chk0 TY PHI cl FT MT SG PHS R nL mc ms cc ce hd hpc = true := zq_mono (fun pc st L => zq_step hk) h
end ZQ
