/-! The law's loop with calls of which more is known; what OB names is chosen anew at each call. -/
/-- such a call: its place; the place of its class, locals, parameters; its contract; the symbols that stand on the stack; whether its answer is the ghost 11 -/
abbrev zuH : Type := Nat × (Nat × Nat × Nat) × zSig × List Nat × Bool
def zu_pre : List Nat → List Nat → Bool
  | [], _ => true
  | _ :: _, [] => false
  | x :: A, y :: B => Nat.beq x y && zu_pre A B
def zu_p0 (st : zS) : zS := (z_L st, z_S st, z_n st, z_V st, z_F st, z_E st, z_R st, z_X st, z_C st, 0)
/-- the stack behind such a call -/
def zu_top (b : Bool) (S : List Nat) : List Nat := match b, S with
  | true, _ :: S => 11 :: S
  | _, S => S
def zu_aft (b : Bool) (st : zS) : zS := (z_L st, zu_top b (z_S st), z_n st, z_V st, z_F st, z_E st, z_R st, z_X st, z_C st, 0)
def zu_inv (TY : List zTy) (PHI : List (List Nat)) (cl : List vw_C) (FT : Nat → Nat → FieldType) (R : Room) (HC : List zuH) (pc : Nat) (st : zS) : Option (List (Nat × zS)) := HC.findSome? (fun h => cond (Nat.beq h.1 pc && zu_pre h.2.2.2.1 (z_S st)) ((z_inv TY PHI cl FT R false 0 h.2.1.1 h.2.1.2.1 h.2.1.2.2 h.2.2.1 st).map (fun L => L.map (fun s => (pc + 3, zu_aft h.2.2.2.2 s)))) none)
def zu_hk (rd : zHk) (TY : List zTy) (PHI : List (List Nat)) (cl : List vw_C) (FT : Nat → Nat → FieldType) (R : Room) (HC : List zuH) (HD : List zS) (hpc : Nat) : zHk := fun pc st => cond (Nat.beq pc hpc && HD.any (fun hd => zm_fit hd zm_iv6 (zu_p0 st))) (some []) (match zu_inv TY PHI cl FT R HC pc st with
  | some L => some L
  | none => rd pc st)
def zu_hB (hd : zS) : zS := (z_L hd, z_S hd, 12, [(5, .inl z_full), (6, .inl z_full), (7, .inl z_full), (8, .inl z_full), (9, .inl z_full), (10, .inl z_full), (11, .inl z_full)] ++ z_V hd, z_F hd, z_E hd, z_R hd, z_X hd, z_C hd, z_ph hd)
def zu_stp (tb : zqT) (TY : List zTy) (PHI : List (List Nat)) (cl : List vw_C) (FT : Nat → Nat → FieldType) (MT : List zM) (SG : List (Nat × zSig)) (PHS : List Nat) (R : Room) (nL mc ms : Nat) (K : zK) (HC : List zuH) (HD : List zS) (hpc : Nat) : Nat → zS → Option (List (Nat × zS)) := z_hst (zu_hk (zq_rd tb) TY PHI cl FT R HC HD hpc) (zq_stp tb TY PHI cl FT MT SG [] PHS R false nL K (fun _ => false) (zl_fin mc ms))
def zu_stp0 (cc : ByteArray) (TY : List zTy) (PHI : List (List Nat)) (cl : List vw_C) (FT : Nat → Nat → FieldType) (MT : List zM) (SG : List (Nat × zSig)) (PHS : List Nat) (R : Room) (nL mc ms : Nat) (K : zK) (HC : List zuH) (HD : List zS) (hpc : Nat) : Nat → zS → Option (List (Nat × zS)) := z_hst (zu_hk (zm_rd cc) TY PHI cl FT R HC HD hpc) (z_stp TY PHI cl FT MT SG [] PHS R false nL K cc (fun _ => false) (zl_fin mc ms))
def zu_chk0 (tb : zqT) (TY : List zTy) (PHI : List (List Nat)) (cl : List vw_C) (FT : Nat → Nat → FieldType) (MT : List zM) (SG : List (Nat × zSig)) (PHS : List Nat) (R : Room) (nL mc ms : Nat) (ce : zCe) (HC : List zuH) (hd : zS) (HD : List zS) (hpc : Nat) : Bool := z_run (zu_stp tb TY PHI cl FT MT SG PHS R nL mc ms ce.1 HC HD hpc) (z_cut ce.2.1 12 none) ce.2.2 hpc (zu_hB hd)
def zu_chkP (tb : zqT) (TY : List zTy) (PHI : List (List Nat)) (cl : List vw_C) (FT : Nat → Nat → FieldType) (MT : List zM) (SG : List (Nat × zSig)) (PHS : List Nat) (R : Room) (nL mc ms : Nat) (ce : zCe) (HC : List zuH) (HD : List zS) (hpc : Nat) (P : List zCu) : Bool := P.all (fun k => k.2.2.2.2.all (fun q => Nat.blt q.1 (z_n k.2.1)) && z_run (zu_stp tb TY PHI cl FT MT SG PHS R nL mc ms ce.1 HC HD hpc) (z_cut ce.2.1 12 (some k.2.2.2)) ce.2.2 k.1 k.2.1)
def zu_c0 (cc : ByteArray) (TY : List zTy) (PHI : List (List Nat)) (cl : List vw_C) (FT : Nat → Nat → FieldType) (MT : List zM) (SG : List (Nat × zSig)) (PHS : List Nat) (R : Room) (nL mc ms : Nat) (ce : zCe) (HC : List zuH) (hd : zS) (HD : List zS) (hpc : Nat) : Bool := z_run (zu_stp0 cc TY PHI cl FT MT SG PHS R nL mc ms ce.1 HC HD hpc) (z_cut ce.2.1 12 none) ce.2.2 hpc (zu_hB hd)
def zu_cP (cc : ByteArray) (TY : List zTy) (PHI : List (List Nat)) (cl : List vw_C) (FT : Nat → Nat → FieldType) (MT : List zM) (SG : List (Nat × zSig)) (PHS : List Nat) (R : Room) (nL mc ms : Nat) (ce : zCe) (HC : List zuH) (HD : List zS) (hpc : Nat) (P : List zCu) : Bool := P.all (fun k => k.2.2.2.2.all (fun q => Nat.blt q.1 (z_n k.2.1)) && z_run (zu_stp0 cc TY PHI cl FT MT SG PHS R nL mc ms ce.1 HC HD hpc) (z_cut ce.2.1 12 (some k.2.2.2)) ce.2.2 k.1 k.2.1)
section ZULOOP1
variable {TY : List zTy} {PHI : List (List Nat)} {cl : List vw_C} {FT : Nat → Nat → FieldType} {MT : List zM} {SG : List (Nat × zSig)} {PHS : List Nat} {R : Room} {nL mc ms : Nat} {cc : ByteArray} {ce : zCe} {HC : List zuH} {hd : zS} {HD : List zS} {hpc : Nat} {tb : zqT}
theorem zu_step {K : zK} (hk : zq_ok cc tb) {pc : Nat} {st : zS} {L : List (Nat × zS)} (h : zu_stp tb TY PHI cl FT MT SG PHS R nL mc ms K HC HD hpc pc st = some L) : zu_stp0 cc TY PHI cl FT MT SG PHS R nL mc ms K HC HD hpc pc st = some L := by
  unfold zu_stp z_hst at h
  unfold zu_stp0 z_hst
  have hr : ∀ q, zq_get tb pc = some q → zq_rd tb pc st = zm_rd cc pc st := by
    intro q hq
    rw [zq_rd_eq, zq_get_ok hk hq]
    unfold zq_rd
    rw [hq]
  have hs : ∀ L2, zq_rd tb pc st = some L2 → zm_rd cc pc st = some L2 := by
    intro L2 h2
    cases hg : zq_get tb pc with
    | none => unfold zq_rd at h2; rw [hg] at h2; cases h2
    | some q => rw [← hr q hg]; exact h2
  cases hb : (Nat.beq pc hpc && HD.any (fun hd => zm_fit hd zm_iv6 (zu_p0 st))) with
  | true =>
    have e1 : ∀ rd, zu_hk rd TY PHI cl FT R HC HD hpc pc st = some [] := fun rd => by unfold zu_hk; rw [hb]; rfl
    rw [e1] at h
    rw [e1]
    exact h
  | false =>
    have e1 : ∀ rd : zHk, zu_hk rd TY PHI cl FT R HC HD hpc pc st = (match zu_inv TY PHI cl FT R HC pc st with
      | some L => some L
      | none => rd pc st) := fun rd => by unfold zu_hk; rw [hb]; rfl
    rw [e1] at h
    rw [e1]
    cases ha : zu_inv TY PHI cl FT R HC pc st with
    | some s =>
      rw [ha] at h
      exact h
    | none =>
      rw [ha] at h
      have h : (match zq_rd tb pc st with
        | some L => some L
        | none => zq_stp tb TY PHI cl FT MT SG [] PHS R false nL K (fun _ => false) (zl_fin mc ms) pc st) = some L := h
      show (match zm_rd cc pc st with
        | some L => some L
        | none => z_stp TY PHI cl FT MT SG [] PHS R false nL K cc (fun _ => false) (zl_fin mc ms) pc st) = some L
      cases h2 : zq_rd tb pc st with
      | some L2 =>
        rw [h2] at h
        rw [hs L2 h2]
        exact h
      | none =>
        rw [h2] at h
        obtain ⟨h3, q, hq⟩ := zq_stp_ok hk h
        rw [← hr q hq, h2]
        exact h3
theorem zu_c0_ok (hk : zq_ok cc tb) (h : zu_chk0 tb TY PHI cl FT MT SG PHS R nL mc ms ce HC hd HD hpc = true) : zu_c0 cc TY PHI cl FT MT SG PHS R nL mc ms ce HC hd HD hpc = true := zq_mono (fun pc st L => zu_step hk) h
theorem zu_cP_ok (hk : zq_ok cc tb) {P : List zCu} (h : zu_chkP tb TY PHI cl FT MT SG PHS R nL mc ms ce HC HD hpc P = true) : zu_cP cc TY PHI cl FT MT SG PHS R nL mc ms ce HC HD hpc P = true := by
  refine List.all_eq_true.mpr (fun k hk2 => ?_)
  have h1 := List.all_eq_true.mp h k hk2
  rw [Bool.and_eq_true] at h1 ⊢
  exact ⟨h1.1, zq_mono (fun pc st L => zu_step hk) h1.2⟩
theorem zu_cP_app {P Q : List zCu} (h1 : zu_cP cc TY PHI cl FT MT SG PHS R nL mc ms ce HC HD hpc P = true) (h2 : zu_cP cc TY PHI cl FT MT SG PHS R nL mc ms ce HC HD hpc Q = true) : zu_cP cc TY PHI cl FT MT SG PHS R nL mc ms ce HC HD hpc (P ++ Q) = true := by
  show (P ++ Q).all _ = true
  rw [List.all_append, Bool.and_eq_true]
  exact ⟨h1, h2⟩
theorem zu_stk {env : List Value} : ∀ {S : List Nat} {stk : List Value} {k d : Nat}, z_stk env S stk → S[k]? = some d → ∃ v, stk[k]? = some v ∧ env[d]? = some v
  | [], _, _, _, _, h => by simp at h
  | d0 :: S, _, k, d, ⟨v, k', e, h1, h2⟩, h => by
    subst e
    match k, h with
    | 0, h =>
      have e : d0 = d := by simpa using h
      subst e
      exact ⟨v, rfl, h1⟩
    | k + 1, h => exact zu_stk (k := k) h2 (by simpa using h)
theorem zu_pre_ok : ∀ {A S : List Nat} {k d : Nat}, zu_pre A S = true → A[k]? = some d → S[k]? = some d
  | [], _, _, _, _, h => by simp at h
  | x :: A, [], _, _, h, _ => by cases h
  | x :: A, y :: S, k, d, h, h1 => by
    have h : (Nat.beq x y && zu_pre A S) = true := h
    rw [Bool.and_eq_true] at h
    match k, h1 with
    | 0, h1 => rw [← z_beq h.1]; exact h1
    | k + 1, h1 => exact zu_pre_ok (k := k) h.2 (by simpa using h1)
end ZULOOP1
section ZULOOP2
variable {p : Program} {l : Launch} {e : Env} {R : Room} {s : State} {m : MethodId} {args : Array Value} {below : List Frame} {meth : Method} {c : Code} {Q : State → Prop} {cc : ByteArray} {pc : Nat}
variable {OB : Nat → Nat} {D : va_G} {DA : Nat → ClassId} {cl : List vw_C} {FT : Nat → Nat → FieldType} {TY : List zTy} {PHI : List (List Nat)} {sz : Nat} {T0 T : zTp} {H0 H : Heap} {env0 env : List Value} {nL : Nat} {st st' : zS} {locs : List Loc} {ls : Array Slot} {stk : List Value} {KXf : (Nat → Nat) → Nat → State → Heap → Prop} {good : Nat → zS → Prop}
variable {TBL : List Cond} {own : String} {MT : List zM} {SG : List (Nat × zSig)} {PHS : List Nat} {ce : zCe} {mc ms : Nat} {b L N : Nat} {xs : Nat → Int32} {hd : zS} {HC : List zuH} {HD : List zS} {hpc : Nat}
theorem zu_p0_ok (hs : z_sat OB D DA cl TY PHI sz none false (fun _ => none) H0 env0 nL st T H locs env ls stk) : z_sat OB D DA cl TY PHI sz none false (fun _ => none) H0 env0 nL (zu_p0 st) T H locs env ls stk := by
  obtain ⟨h1, h2, h3, h4, h5, h6, h7, h8, h9, k1, k2, k3, k4, k5⟩ := hs
  exact ⟨h1, h2, h3, h4, h5, h6, h7, h8, h9, k1, k2, fun a t ha => (by cases ha), k4, k5⟩
/-- behind such a call: the answer is the ghost -/
theorem zu_aft_ok {ans : Bool} {x : Value} (hs : z_sat OB D DA cl TY PHI sz none false (fun _ => none) H0 env0 nL st T H locs env ls stk) (hx : env0[11]? = some x) (hq : ∃ (v : Option Value) (vr : List Value), stk = v.toList ++ vr ∧ (ans = true → v = some x)) : z_sat OB D DA cl TY PHI sz none false (fun _ => none) H0 env0 nL (zu_aft ans st) T H locs env ls stk := by
  obtain ⟨h1, h2, h3, h4, h5, h6, h7, h8, h9, k1, k2, k3, k4, k5⟩ := hs
  refine ⟨h1, h2, h3, ?_, h5, h6, h7, h8, h9, k1, k2, fun a t ha => (by cases ha), k4, k5⟩
  show z_stk env (zu_top ans (z_S st)) stk
  cases ans with
  | false =>
    have e : zu_top false (z_S st) = z_S st := by unfold zu_top; rfl
    rw [e]
    exact h4
  | true =>
    obtain ⟨v, vr, e1, e2⟩ := hq
    rw [e2 rfl] at e1
    subst e1
    obtain ⟨w, hw⟩ := h2
    cases hS : z_S st with
    | nil => rw [hS] at h4; exact absurd h4 (by intro h; cases h)
    | cons d S =>
      rw [hS] at h4
      obtain ⟨v2, k2', e3, e4, e5⟩ := h4
      cases e3
      exact ⟨x, vr, rfl, by rw [hw]; exact z_app hx, e5⟩
/-- what is known of such a call, at this OB -/
def zu_hand (l : Launch) (OB : Nat → Nat) (D : va_G) (DA : Nat → ClassId) (cl : List vw_C) (FT : Nat → Nat → FieldType) (TY : List zTy) (PHI : List (List Nat)) (sz : Nat) (KXf : (Nat → Nat) → Nat → State → Heap → Prop) (TBL : List Cond) (own : String) (cc : ByteArray) (xs : Nat → Int32) (i : Nat) (h : zuH) : Prop :=
  ∃ (j : Nat) (y : MethodName) (bytes : ByteArray) (ret : Option FieldType), decode cc h.1 = .ok (z_ins 0 j, 3) ∧ z_lk TBL own 0 j y bytes h.2.1.2.1 ret h.2.1.2.2 ∧ (∃ r, cl[h.2.1.1]? = some r ∧ r.1 = y.cls) ∧ h.2.2.2.1.length = (g_prm h.2.2.1).length ∧
    ∀ T : zTp, Met l y (Cond.code y bytes h.2.1.2.1 ret :: TBL) { frames := (g_rm h.2.2.1).1, cells := (g_mk h.2.2.1).1, slots := (g_mk h.2.2.1).2, locals := (g_rm h.2.2.1).2 }
      (fun a U => z_Pre OB D DA cl FT TY sz (KXf OB sz) h.2.2.1 T a U ∧ ∀ q k : Nat, h.2.2.2.1.reverse[q]? = some (5 + k) → k < 6 → a[q]? = some (.int (xs (i + k))))
      (fun a st o t => z_Post OB D DA cl TY PHI sz h.2.2.1 T a st o t ∧ ∀ v, o = .returned v → (h.2.2.2.2 = true → v = some (.int (Int32.ofNat (OB 40))))) (g_mk h.2.2.1).1 (g_mk h.2.2.1).2 (fun q => sz ≤ q)
def zu_at (OB : Nat → Nat) (b L i : Nat) (xs : Nat → Int32) (env : List Value) : Prop := zm_at b L i xs env ∧ env[11]? = some (.int (Int32.ofNat (OB 40)))
end ZULOOP2
