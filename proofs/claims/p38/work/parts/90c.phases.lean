/-! The law's loop with more than one head; an object that no cell refers to is taken to another type. -/
def zt_not (t : Nat) (c : zV) : Bool := match c with
  | .inr (.inl u) => !(Nat.beq u t)
  | _ => true
def zt_free (TY : List zTy) (t : Nat) : Bool := TY.all (fun ty => match ty with
  | .inl o => o.2.all (zt_not t)
  | .inr q => q.2.2.all (fun g => zt_not t g.2))
def zt_fld (st : zS) (d ci k : Nat) (c c2 : zV) : Bool := z_le c c2 || (match z_ffind st d ci k with
  | some w => (match z_get (z_V st) w with
    | some cw => z_le cw c2
    | none => false)
  | none => false)
/-- the object that d names gets the type t2 -/
def zt_str (TY : List zTy) (st : zS) (d t t2 : Nat) : Option zS := match z_get (z_V st) d, TY[t]?, TY[t2]? with
  | some (.inr (.inl u)), some (.inl o), some (.inl o2) => cond ((Nat.beq u t && zt_free TY t) && (Nat.beq o.1 o2.1 && Nat.beq o.2.length o2.2.length) && ((z_X st).isEmpty && (List.range o.2.length).all (fun k => match o.2[k]?, o2.2[k]? with
    | some c, some c2 => zt_fld st d o.1 k c c2
    | _, _ => false))) (some (z_L st, z_S st, z_n st, (d, .inr (.inl t2)) :: (z_V st).filter (fun q => zt_not t q.2), z_F st, z_E st, z_R st, z_X st, z_C st, z_ph st)) none
  | _, _, _ => none
section ZPHASE
variable {OB : Nat → Nat} {D : va_G} {DA : Nat → ClassId} {cl : List vw_C} {TY : List zTy} {PHI : List (List Nat)} {sz : Nat} {T : zTp} {H0 H : Heap} {env0 env : List Value} {nL : Nat} {st st' : zS} {locs : List Loc} {ls : Array Slot} {stk : List Value}
theorem zt_v {a t t2 : Nat} {c : zV} {v : Value} (ha : T a = some t) (hn : zt_not t c = true) (hv : z_v OB T c v) : z_v OB (z_T1 T a t2) c v := by
  match c, hn, hv with
  | .inl r, _, hv => exact hv
  | .inr (.inr 0), _, hv => exact hv
  | .inr (.inr (k + 1)), _, hv => exact hv
  | .inr (.inl u), hn, ⟨b, e, hb⟩ =>
    refine ⟨b, e, ?_⟩
    rw [z_T1_ne (fun e2 => ?_)]
    · exact hb
    · rw [e2, ha] at hb
      cases hb
      have hn : (!(Nat.beq t t)) = true := hn
      rw [Nat.beq_refl] at hn
      cases hn
theorem zt_free_f {t u ci k : Nat} {fl : List zV} {c : zV} (h : zt_free TY t = true) (hty : TY[u]? = some (.inl (ci, fl))) (hk : fl[k]? = some c) : zt_not t c = true := by
  have h1 := List.all_eq_true.mp h _ (List.mem_of_getElem? hty)
  exact List.all_eq_true.mp h1 c (List.mem_of_getElem? hk)
theorem zt_cell {a t t2 q u : Nat} {ty : zTy} (ha : T a = some t) (hf : zt_free TY t = true) (hty : TY[u]? = some ty) (hc : z_cell OB D DA cl T H q ty) : z_cell OB D DA cl (z_T1 T a t2) H q ty := by
  match ty, hty, hc with
  | .inl (ci, fl), hty, ⟨r, q1, q2, V, q3, q4⟩ => exact ⟨r, q1, q2, V, q3, fun k c hk => zt_v ha (zt_free_f hf hty hk) (q4 k c hk)⟩
  | .inr o, hty, ⟨n, f, z1, z2, z3, z4, z5⟩ =>
    refine ⟨n, f, z1, z2, z3, z4, fun g hg j j1 j2 j3 => zt_v ha ?_ (z5 g hg j j1 j2 j3)⟩
    have h1 := List.all_eq_true.mp hf _ (List.mem_of_getElem? hty)
    exact List.all_eq_true.mp h1 g hg
theorem zt_str_ok {d t t2 : Nat} (h : zt_str TY st d t t2 = some st') (hs : z_sat OB D DA cl TY PHI sz none false (fun _ => none) H0 env0 nL st T H locs env ls stk) : ∃ T', z_sat OB D DA cl TY PHI sz none false (fun _ => none) H0 env0 nL st' T' H locs env ls stk := by
  unfold zt_str at h
  split at h
  · rename_i u o o2 hV ho ho2
    obtain ⟨hc, rfl⟩ := z_cond h
    simp only [Bool.and_eq_true] at hc
    obtain ⟨⟨⟨c1, c2⟩, c3, c4⟩, c5, c6⟩ := hc
    have eu : u = t := z_beq c1
    subst eu
    obtain ⟨ci, fl⟩ := o
    obtain ⟨ci2, fl2⟩ := o2
    have ec : ci = ci2 := z_beq c3
    subst ec
    have el : fl.length = fl2.length := z_beq c4
    obtain ⟨v, e1, a, rfl, ha⟩ := z_get_ok hs.2.2.2.2.1 hV
    have hm := hs.2.2.2.2.2.2.2.2.2
    obtain ⟨ty, y1, r, q1, q2, V, q3, q4⟩ := (by
      obtain ⟨ty, y1, y2⟩ := hm.1.1 a u ha
      rw [ho] at y1
      cases y1
      exact ⟨_, ho, y2⟩ : ∃ ty, TY[u]? = some ty ∧ z_cell OB D DA cl T H a (.inl (ci, fl)))
    have hcell : z_cell OB D DA cl (z_T1 T a t2) H a (.inl (ci, fl2)) := by
      refine ⟨r, q1, el.symm.trans q2, V, q3, fun k cc hk => ?_⟩
      have hk : fl2[k]? = some cc := hk
      have hlt : k < fl.length := by rw [el]; exact (List.getElem?_eq_some_iff.mp hk).1
      have hkc := List.getElem?_eq_getElem hlt
      have h6 := List.all_eq_true.mp c6 k (List.mem_range.mpr hlt)
      have h6 : (match fl[k]?, fl2[k]? with
        | some c, some c2 => zt_fld st d ci k c c2
        | _, _ => false) = true := h6
      rw [hkc, hk] at h6
      have h6 : zt_fld st d ci k fl[k] cc = true := h6
      have hnc : zt_not u cc = true := zt_free_f c2 ho2 hk
      refine zt_v ha hnc ?_
      unfold zt_fld at h6
      rw [Bool.or_eq_true] at h6
      rcases h6 with h6 | h6
      · exact z_le_ok h6 (q4 k _ hkc)
      · split at h6
        · rename_i w hw
          split at h6
          · rename_i cw hcw
            obtain ⟨a2, v2, f1, f2, f3⟩ := z_ffind_ok hw hs
            rw [e1] at f1
            have ea : a = a2 := by cases f1; rfl
            subst ea
            obtain ⟨v3, g1, g2⟩ := z_get_ok hs.2.2.2.2.1 hcw
            rw [f2] at g1
            cases g1
            have hVk : V k = v2 := by
              obtain ⟨cell, x1, x2, x3, x4⟩ := q3
              exact zj_fun ⟨cell, x1, x3, x4 k (by rw [← q2]; exact hlt)⟩ f3
            rw [hVk]
            exact z_le_ok h6 g2
          · cases h6
        · cases h6
    have some_ : ∀ b, (T b).isSome = true → (z_T1 T a t2 b).isSome = true := by
      intro b hb
      by_cases e : b = a
      · subst e; rw [z_T1_at]; rfl
      · rw [z_T1_ne e]; exact hb
    have base : ∀ q w, z_T1 T a t2 q = some w → ∃ ty, TY[w]? = some ty ∧ z_cell OB D DA cl (z_T1 T a t2) H q ty := by
      intro q w hq
      by_cases e : q = a
      · subst e
        rw [z_T1_at] at hq
        cases hq
        exact ⟨_, ho2, hcell⟩
      · rw [z_T1_ne e] at hq
        obtain ⟨ty, k1, k2⟩ := hm.1.1 q w hq
        exact ⟨ty, k1, zt_cell ha c2 k1 k2⟩
    have cls : ∀ q w c f, z_T1 T a t2 q = some w → TY[w]? = some (.inl (c, f)) → ∃ w0 f0, T q = some w0 ∧ TY[w0]? = some (.inl (c, f0)) := by
      intro q w c f hq hw
      by_cases e : q = a
      · subst e
        rw [z_T1_at] at hq
        cases hq
        rw [ho2] at hw
        cases hw
        exact ⟨u, fl, ha, ho⟩
      · rw [z_T1_ne e] at hq
        exact ⟨w, f, hq, hw⟩
    have hJ : z_J D DA TY (z_T1 T a t2) H := by
      refine ⟨fun q w c f hq hw => ?_, fun q q' w w' c f f' h1 h2 h3 h4 k hk b h5 h6 => ?_⟩
      · obtain ⟨w0, f0, g1, g2⟩ := cls q w c f hq hw
        exact zj_kept (hm.1.2.1 q w0 c f0 g1 g2) some_ (fun _ _ _ h => h) (fun _ _ _ _ _ => rfl)
      · obtain ⟨w0, f0, g1, g2⟩ := cls q w c f h1 h2
        obtain ⟨w1, f1, g3, g4⟩ := cls q' w' c f' h3 h4
        exact hm.1.2.2 q q' w0 w1 c f0 f1 g1 g2 g3 g4 k hk b h5 h6
    refine ⟨z_T1 T a t2, hs.1, hs.2.1, hs.2.2.1, hs.2.2.2.1, fun q hq => ?_, hs.2.2.2.2.2.1, hs.2.2.2.2.2.2.1, hs.2.2.2.2.2.2.2.1, ?_, ⟨⟨base, hJ⟩, ⟨fun q w hq => ?_, fun h => (by cases h), fun q w c f h1 => (by cases h1)⟩, fun q w h1 => (by cases h1), fun q h1 h2 h3 => ?_, hm.2.2.2.2⟩⟩
    · have hq : q ∈ (d, .inr (.inl t2)) :: (z_V st).filter (fun q => zt_not u q.2) := hq
      rcases List.mem_cons.mp hq with rfl | hq
      · exact ⟨_, e1, a, rfl, z_T1_at⟩
      · obtain ⟨m1, m2⟩ := List.mem_filter.mp hq
        obtain ⟨v, v1, v2⟩ := hs.2.2.2.2.1 q m1
        exact ⟨v, v1, zt_v ha m2 v2⟩
    · show z_fx D cl (z_T1 T a t2) sz H0.size none H env (z_X st)
      rw [List.isEmpty_iff.mp c5]
      trivial
    · by_cases e : q = a
      · subst e; exact hm.2.1.1 q u ha
      · rw [z_T1_ne e] at hq; exact hm.2.1.1 q w hq
    · obtain ⟨g1, g2⟩ := hm.2.2.2.1 q h1 h2 h3
      refine ⟨?_, g2⟩
      rw [z_T1_ne (fun e => by rw [e, ha] at g1; cases g1)]
      exact g1
  · cases h
end ZPHASE
/-- such acts of the law: place, local, type, its new type -/
abbrev ztA : Type := List (Nat × Nat × Nat × Nat)
def zt_act (TY : List zTy) (A : ztA) (pc : Nat) (st : zS) : Option zS := A.findSome? (fun q => cond (Nat.beq q.1 pc) (match z_loc (z_L st) q.2.1 with
  | some d => zt_str TY st d q.2.2.1 q.2.2.2
  | none => none) none)
def zt_hk (rd : zHk) (TY : List zTy) (A : ztA) (HD : List zS) (hpc : Nat) : zHk := fun pc st => cond (Nat.beq pc hpc && HD.any (fun hd => zm_fit hd zm_iv6 st)) (some []) (match zt_act TY A pc st with
  | some s => some [(pc, s)]
  | none => rd pc st)
def zt_stp (tb : zqT) (A : ztA) (TY : List zTy) (PHI : List (List Nat)) (cl : List vw_C) (FT : Nat → Nat → FieldType) (MT : List zM) (SG : List (Nat × zSig)) (PHS : List Nat) (R : Room) (nL mc ms : Nat) (K : zK) (HD : List zS) (hpc : Nat) : Nat → zS → Option (List (Nat × zS)) := z_hst (zt_hk (zq_rd tb) TY A HD hpc) (zq_stp tb TY PHI cl FT MT SG [] PHS R false nL K (fun _ => false) (zl_fin mc ms))
def zt_stp0 (cc : ByteArray) (A : ztA) (TY : List zTy) (PHI : List (List Nat)) (cl : List vw_C) (FT : Nat → Nat → FieldType) (MT : List zM) (SG : List (Nat × zSig)) (PHS : List Nat) (R : Room) (nL mc ms : Nat) (K : zK) (HD : List zS) (hpc : Nat) : Nat → zS → Option (List (Nat × zS)) := z_hst (zt_hk (zm_rd cc) TY A HD hpc) (z_stp TY PHI cl FT MT SG [] PHS R false nL K cc (fun _ => false) (zl_fin mc ms))
def zt_chk0 (tb : zqT) (A : ztA) (TY : List zTy) (PHI : List (List Nat)) (cl : List vw_C) (FT : Nat → Nat → FieldType) (MT : List zM) (SG : List (Nat × zSig)) (PHS : List Nat) (R : Room) (nL mc ms : Nat) (ce : zCe) (HD : List zS) (hpc : Nat) : Bool := HD.all (fun hd => z_run (zt_stp tb A TY PHI cl FT MT SG PHS R nL mc ms ce.1 HD hpc) (z_cut ce.2.1 11 none) ce.2.2 hpc (zm_hB hd))
def zt_chkP (tb : zqT) (A : ztA) (TY : List zTy) (PHI : List (List Nat)) (cl : List vw_C) (FT : Nat → Nat → FieldType) (MT : List zM) (SG : List (Nat × zSig)) (PHS : List Nat) (R : Room) (nL mc ms : Nat) (ce : zCe) (HD : List zS) (hpc : Nat) (P : List zCu) : Bool := P.all (fun k => k.2.2.2.2.all (fun q => Nat.blt q.1 (z_n k.2.1)) && z_run (zt_stp tb A TY PHI cl FT MT SG PHS R nL mc ms ce.1 HD hpc) (z_cut ce.2.1 11 (some k.2.2.2)) ce.2.2 k.1 k.2.1)
def zt_c0 (cc : ByteArray) (A : ztA) (TY : List zTy) (PHI : List (List Nat)) (cl : List vw_C) (FT : Nat → Nat → FieldType) (MT : List zM) (SG : List (Nat × zSig)) (PHS : List Nat) (R : Room) (nL mc ms : Nat) (ce : zCe) (HD : List zS) (hpc : Nat) : Bool := HD.all (fun hd => z_run (zt_stp0 cc A TY PHI cl FT MT SG PHS R nL mc ms ce.1 HD hpc) (z_cut ce.2.1 11 none) ce.2.2 hpc (zm_hB hd))
def zt_cP (cc : ByteArray) (A : ztA) (TY : List zTy) (PHI : List (List Nat)) (cl : List vw_C) (FT : Nat → Nat → FieldType) (MT : List zM) (SG : List (Nat × zSig)) (PHS : List Nat) (R : Room) (nL mc ms : Nat) (ce : zCe) (HD : List zS) (hpc : Nat) (P : List zCu) : Bool := P.all (fun k => k.2.2.2.2.all (fun q => Nat.blt q.1 (z_n k.2.1)) && z_run (zt_stp0 cc A TY PHI cl FT MT SG PHS R nL mc ms ce.1 HD hpc) (z_cut ce.2.1 11 (some k.2.2.2)) ce.2.2 k.1 k.2.1)
section ZPHASE2
variable {TY : List zTy} {PHI : List (List Nat)} {cl : List vw_C} {FT : Nat → Nat → FieldType} {MT : List zM} {SG : List (Nat × zSig)} {PHS : List Nat} {R : Room} {nL mc ms : Nat} {cc : ByteArray} {ce : zCe} {HD : List zS} {hpc : Nat} {tb : zqT} {A : ztA}
theorem zt_step {K : zK} (hk : zq_ok cc tb) {pc : Nat} {st : zS} {L : List (Nat × zS)} (h : zt_stp tb A TY PHI cl FT MT SG PHS R nL mc ms K HD hpc pc st = some L) : zt_stp0 cc A TY PHI cl FT MT SG PHS R nL mc ms K HD hpc pc st = some L := by
  unfold zt_stp z_hst at h
  unfold zt_stp0 z_hst
  have hr : ∀ q, zq_get tb pc = some q → zq_rd tb pc st = zm_rd cc pc st := by
    intro q hq
    rw [zq_rd_eq, zq_get_ok hk hq]
    unfold zq_rd
    rw [hq]
  have hs : ∀ L2, zq_rd tb pc st = some L2 → zm_rd cc pc st = some L2 := by
    intro L2 h2
    cases hg : zq_get tb pc with
    | none => unfold zq_rd at h2; rw [hg] at h2; cases h2
    | some q => rw [← hr q hg]; exact h2
  cases hb : (Nat.beq pc hpc && HD.any (fun hd => zm_fit hd zm_iv6 st)) with
  | true =>
    have e1 : ∀ rd, zt_hk rd TY A HD hpc pc st = some [] := fun rd => by unfold zt_hk; rw [hb]; rfl
    rw [e1] at h
    rw [e1]
    exact h
  | false =>
    have e1 : ∀ rd : zHk, zt_hk rd TY A HD hpc pc st = (match zt_act TY A pc st with
      | some s => some [(pc, s)]
      | none => rd pc st) := fun rd => by unfold zt_hk; rw [hb]; rfl
    rw [e1] at h
    rw [e1]
    cases ha : zt_act TY A pc st with
    | some s =>
      rw [ha] at h
      exact h
    | none =>
      rw [ha] at h
      have h : (match zq_rd tb pc st with
        | some L => some L
        | none => zq_stp tb TY PHI cl FT MT SG [] PHS R false nL K (fun _ => false) (zl_fin mc ms) pc st) = some L := h
      show (match zm_rd cc pc st with
        | some L => some L
        | none => z_stp TY PHI cl FT MT SG [] PHS R false nL K cc (fun _ => false) (zl_fin mc ms) pc st) = some L
      cases h2 : zq_rd tb pc st with
      | some L2 =>
        rw [h2] at h
        rw [hs L2 h2]
        exact h
      | none =>
        rw [h2] at h
        obtain ⟨h3, q, hq⟩ := zq_stp_ok hk h
        rw [← hr q hq, h2]
        exact h3
theorem zt_c0_ok (hk : zq_ok cc tb) (h : zt_chk0 tb A TY PHI cl FT MT SG PHS R nL mc ms ce HD hpc = true) : zt_c0 cc A TY PHI cl FT MT SG PHS R nL mc ms ce HD hpc = true :=
  List.all_eq_true.mpr (fun hd h2 => zq_mono (fun pc st L => zt_step hk) (List.all_eq_true.mp h hd h2))
theorem zt_cP_ok (hk : zq_ok cc tb) {P : List zCu} (h : zt_chkP tb A TY PHI cl FT MT SG PHS R nL mc ms ce HD hpc P = true) : zt_cP cc A TY PHI cl FT MT SG PHS R nL mc ms ce HD hpc P = true := by
  refine List.all_eq_true.mpr (fun k hk2 => ?_)
  have h1 := List.all_eq_true.mp h k hk2
  rw [Bool.and_eq_true] at h1 ⊢
  exact ⟨h1.1, zq_mono (fun pc st L => zt_step hk) h1.2⟩
theorem zt_cP_app {P Q : List zCu} (h1 : zt_cP cc A TY PHI cl FT MT SG PHS R nL mc ms ce HD hpc P = true) (h2 : zt_cP cc A TY PHI cl FT MT SG PHS R nL mc ms ce HD hpc Q = true) : zt_cP cc A TY PHI cl FT MT SG PHS R nL mc ms ce HD hpc (P ++ Q) = true := by
  show (P ++ Q).all _ = true
  rw [List.all_append, Bool.and_eq_true]
  exact ⟨h1, h2⟩
end ZPHASE2
section ZPHASE3
variable {p : Program} {l : Launch} {e : Env} {R : Room} {s : State} {m : MethodId} {args : Array Value} {below : List Frame} {meth : Method} {c : Code} {Q : State → Prop} {cc : ByteArray} {pc : Nat}
variable {OB : Nat → Nat} {D : va_G} {DA : Nat → ClassId} {cl : List vw_C} {FT : Nat → Nat → FieldType} {TY : List zTy} {PHI : List (List Nat)} {sz : Nat} {T0 : zTp} {env0 : List Value} {nL : Nat} {st : zS} {KXf : (Nat → Nat) → Nat → State → Heap → Prop} {good : Nat → zS → Prop}
variable {TBL : List Cond} {own : String} {MT : List zM} {SG : List (Nat × zSig)} {PHS : List Nat} {ce : zCe} {mc ms : Nat} {b L N : Nat} {xs : Nat → Int32} {HD : List zS} {hpc : Nat} {A : ztA}
/-- one call after the other -/
theorem zt_loop (hx : p.tables.exec = Jvm.exec) (hb : c.code = cc) (hml : c.maxLocals = nL) (hX : va_X b L xs s s.heap) (hbl : b < s.heap.size) (hN : N ≤ 100000) (hL : L ≤ N) (hOB : OB 0 = b) (hD : z_Dy s m args TBL own D cl DA (z_tys DA)) (hXp : z_KXp s.heap.size (KXf OB s.heap.size)) (hKX : KXf OB s.heap.size s s.heap) (hKS : z_KS TBL TBL cl FT own MT ce.1) (hin : k_IN ce.1 = none) (hPH : ∀ a ∈ PHS, z_phok TY PHI a = true)
    (hok : ∀ g ∈ (k_CA ce.1).filterMap (fun a => SG[a.2]?), ∀ m2, MT[g.1]? = some m2 → z_OK TBL cl FT TY PHI KXf m2.1 m2.2.1 m2.2.2.1 m2.2.2.2.1 g.2) (hend : ∀ pc H ls, decode cc pc = .ok (.ireturn, 1) → W p l e R s m args below meth c H [] mc ms Q (F0 m pc ls [.int 1]))
    (hn : ∀ hd ∈ HD, z_n hd = 5) (hV : ∀ hd ∈ HD, (2, Sum.inl ((0 : Int), (N : Int))) ∈ z_V hd) (h0 : zt_c0 cc A TY PHI cl FT MT SG PHS R nL mc ms ce HD hpc = true) (hP : zt_cP cc A TY PHI cl FT MT SG PHS R nL mc ms ce HD hpc ce.2.1 = true) :
    ∀ k i, i < 2147482000 → N + 1 - i ≤ k → ∀ hd ∈ HD, ∀ T H locs env ls stk, env[0]? = some (.ref b) → env[1]? = some (.int (Int32.ofNat L)) → env[2]? = some (.int (Int32.ofNat i)) → z_sat OB D DA cl TY PHI s.heap.size none false (fun _ => none) s.heap env nL hd T H locs env ls stk → W p l e R s m args below meth c H locs (z_C hd).1 (z_C hd).2 Q (F0 m hpc ls stk) := by
  intro k
  induction k with
  | zero =>
    intro i hi hk hd hhd T H locs env ls stk e0 e1 e2 hs
    obtain ⟨v, g1, x, rfl, g2⟩ := hs.2.2.2.2.1 _ (hV hd hhd)
    have g1 : env[2]? = some (.int x) := g1
    rw [e2] at g1
    cases g1
    have ei : (Int32.ofNat i).toInt = (i : Int) := Int32.toInt_ofNat_of_lt (by omega)
    have := g2.2
    rw [ei] at this
    have : (i : Int) ≤ (N : Int) := this
    omega
  | succ k ih =>
    intro i hi hk hd hhd T H locs env ls stk e0 e1 e2 hs
    obtain ⟨v, g1, x, rfl, g2⟩ := hs.2.2.2.2.1 _ (hV hd hhd)
    have g1 : env[2]? = some (.int x) := g1
    rw [e2] at g1
    cases g1
    have ei : (Int32.ofNat i).toInt = (i : Int) := Int32.toInt_ofNat_of_lt (by omega)
    have hiN : (i : Int) ≤ (N : Int) := by have := g2.2; rw [ei] at this; exact this
    have hlen : env.length = 5 := hs.1.trans (hn hd hhd)
    have gv : ∀ j, j < 6 → (env ++ [Value.int (xs i), .int (xs (i + 1)), .int (xs (i + 2)), .int (xs (i + 3)), .int (xs (i + 4)), .int (xs (i + 5))])[5 + j]? = some (.int (xs (i + j))) := by
      intro j hj
      rw [List.getElem?_append_right (by omega), hlen, Nat.add_sub_cancel_left]
      match j, hj with
      | 0, _ => rfl
      | 1, _ => rfl
      | 2, _ => rfl
      | 3, _ => rfl
      | 4, _ => rfl
      | 5, _ => rfl
    have full : ∀ x : Int32, z_v OB T (.inl z_full) (.int x) := fun x => ⟨x, rfl, z_in_full x⟩
    have hs2 : z_sat OB D DA cl TY PHI s.heap.size none false (fun _ => none) s.heap (env ++ [Value.int (xs i), .int (xs (i + 1)), .int (xs (i + 2)), .int (xs (i + 3)), .int (xs (i + 4)), .int (xs (i + 5))]) nL (zm_hB hd) T H locs (env ++ [Value.int (xs i), .int (xs (i + 1)), .int (xs (i + 2)), .int (xs (i + 3)), .int (xs (i + 4)), .int (xs (i + 5))]) ls stk := by
      refine ⟨by rw [List.length_append, hlen]; rfl, ⟨[], by rw [List.append_nil]⟩, z_ls_app hs.2.2.1, z_stk_app hs.2.2.2.1, fun q hq => ?_, z_ff_app hs.2.2.2.2.2.1, z_fe_app hs.2.2.2.2.2.2.1, z_fr_app hs.2.2.2.2.2.2.2.1, z_fx_app hs.2.2.2.2.2.2.2.2.1, hs.2.2.2.2.2.2.2.2.2⟩
      rcases List.mem_append.mp hq with hq | hq
      · rcases List.mem_cons.mp hq with rfl | hq
        · exact ⟨_, gv 0 (by omega), full _⟩
        rcases List.mem_cons.mp hq with rfl | hq
        · exact ⟨_, gv 1 (by omega), full _⟩
        rcases List.mem_cons.mp hq with rfl | hq
        · exact ⟨_, gv 2 (by omega), full _⟩
        rcases List.mem_cons.mp hq with rfl | hq
        · exact ⟨_, gv 3 (by omega), full _⟩
        rcases List.mem_cons.mp hq with rfl | hq
        · exact ⟨_, gv 4 (by omega), full _⟩
        rcases List.mem_cons.mp hq with rfl | hq
        · exact ⟨_, gv 5 (by omega), full _⟩
        cases hq
      · exact z_fv_app hs.2.2.2.2.1 q hq
    have hat : zm_at b L i xs (env ++ [Value.int (xs i), .int (xs (i + 1)), .int (xs (i + 2)), .int (xs (i + 3)), .int (xs (i + 4)), .int (xs (i + 5))]) := ⟨z_app e0, z_app e1, z_app e2, gv⟩
    refine z_runs (ng := 11) (ends := zm_at b L i xs) (fun env1 env2 he hgh => ?_) (fun env1 pc st Ls he hL2 hall => ?_) hP (List.all_eq_true.mp h0 hd hhd) hat (by rw [List.length_append, hlen]; exact Nat.le_refl _) hs2
    · exact ⟨(hgh 0 (by omega)).trans he.1, (hgh 1 (by omega)).trans he.2.1, (hgh 2 (by omega)).trans he.2.2.1, fun j hj => (hgh (5 + j) (by omega)).trans (he.2.2.2 j hj)⟩
    · have hgg : z_Good p l e R s m args below meth c Q OB D DA cl TY PHI s.heap.size none false (fun _ => none) s.heap env1 nL (fun pc st => ∀ T2 H2 locs2 env2 ls2 stk2, z_sat OB D DA cl TY PHI s.heap.size none false (fun _ => none) s.heap env1 nL st T2 H2 locs2 env2 ls2 stk2 → W p l e R s m args below meth c H2 locs2 (z_C st).1 (z_C st).2 Q (F0 m pc ls2 stk2)) := fun _ _ => Iff.rfl
      unfold zt_stp0 z_hst at hL2
      split at hL2
      · rename_i L3 hL3
        cases hL2
        unfold zt_hk at hL3
        cases hc : (Nat.beq pc hpc && HD.any (fun hd => zm_fit hd zm_iv6 st)) with
        | true =>
          rw [Bool.and_eq_true] at hc
          have hpc2 := z_beq hc.1
          subst hpc2
          obtain ⟨hd2, g1, g2⟩ := List.any_eq_true.mp hc.2
          exact zm_fit_ok (i' := i + 6) (hn hd2 g1) hgg he.1 he.2.1 (zm_iv6_ok (by omega) (fun T H locs env ls stk h => by obtain ⟨w, hw⟩ := h.2.1; rw [hw]; exact z_app he.2.2.1)) (ih (i + 6) (by omega) (by omega) hd2 g1) g2
        | false =>
          rw [hc] at hL3
          have hL3 : (match zt_act TY A pc st with
            | some s => some [(pc, s)]
            | none => zm_rd cc pc st) = some Ls := hL3
          cases ha : zt_act TY A pc st with
          | some s2 =>
            rw [ha] at hL3
            have hL3 : some [(pc, s2)] = some Ls := hL3
            cases hL3
            intro T2 H2 locs2 env2 ls2 stk2 hs3
            obtain ⟨q, q1, q2⟩ := List.exists_of_findSome?_eq_some ha
            cases hq : Nat.beq q.1 pc with
            | false => rw [hq] at q2; cases q2
            | true =>
              rw [hq] at q2
              have q2 : (match z_loc (z_L st) q.2.1 with
                | some d => zt_str TY st d q.2.2.1 q.2.2.2
                | none => none) = some s2 := q2
              split at q2
              · rename_i d hd3
                obtain ⟨T3, hs4⟩ := zt_str_ok q2 hs3
                have hC : z_C s2 = z_C st := by
                  unfold zt_str at q2
                  split at q2
                  · obtain ⟨-, rfl⟩ := z_cond q2
                    rfl
                  · cases q2
                have := hall (pc, s2) (List.mem_singleton.mpr rfl) T3 H2 locs2 env2 ls2 stk2 hs4
                have this : W p l e R s m args below meth c H2 locs2 (z_C s2).1 (z_C s2).2 Q (F0 m pc ls2 stk2) := this
                rw [hC] at this
                exact this
              · cases q2
          | none =>
            rw [ha] at hL3
            exact zm_rd_ok hgg hx hb hX hbl rfl (by omega) (by omega) hOB he hL3 hall
      · exact z_stp_ok hgg hx hb hml hD (Nat.le_refl _) hXp hKX hKS (fun j hj => by rw [hin] at hj; cases hj) hPH hok (fun pc st hd hf => by cases hf) (fun pc st hd hf => zl_fin_ok hgg rfl hend hd hf) hL2 hall
end ZPHASE3
section ZPHASE4
variable {p : Program} {l : Launch} {e : Env} {R : Room} {s : State} {m : MethodId} {args : Array Value} {below : List Frame} {meth : Method} {c : Code} {Q : State → Prop} {cc : ByteArray}
variable {OB : Nat → Nat} {D : va_G} {DA : Nat → ClassId} {cl : List vw_C} {FT : Nat → Nat → FieldType} {TY : List zTy} {PHI : List (List Nat)} {nL : Nat} {KXf : (Nat → Nat) → Nat → State → Heap → Prop}
variable {TBL : List Cond} {own : String} {MT : List zM} {SG : List (Nat × zSig)} {PHS : List Nat} {ce : zCe} {mc ms : Nat} {b L N : Nat} {xs : Nat → Int32} {hd : zS} {HD : List zS} {hpc : Nat} {A : ztA}
theorem zt_law (hx : p.tables.exec = Jvm.exec) (hb : c.code = cc) (hml : c.maxLocals = nL) (hX : va_X b L xs s s.heap) (hbl : b < s.heap.size) (hN : N ≤ 100000) (hL : L ≤ N) (hOB : OB 0 = b) (hD : z_Dy s m args TBL own D cl DA (z_tys DA)) (hXp : z_KXp s.heap.size (KXf OB s.heap.size)) (hKX : KXf OB s.heap.size s s.heap) (hKS : z_KS TBL TBL cl FT own MT ce.1) (hin : k_IN ce.1 = none) (hPH : ∀ a ∈ PHS, z_phok TY PHI a = true)
    (hok : ∀ g ∈ (k_CA ce.1).filterMap (fun a => SG[a.2]?), ∀ m2, MT[g.1]? = some m2 → z_OK TBL cl FT TY PHI KXf m2.1 m2.2.1 m2.2.2.1 m2.2.2.2.1 g.2) (hend : ∀ pc H ls, decode cc pc = .ok (.ireturn, 1) → W p l e R s m args below meth c H [] mc ms Q (F0 m pc ls [.int 1]))
    (hn : ∀ hd ∈ HD, z_n hd = 5) (hV : ∀ hd ∈ HD, (2, Sum.inl ((0 : Int), (N : Int))) ∈ z_V hd) (hhd : hd ∈ HD) (hS : zm_chkS TY PHI cl FT MT SG PHS R nL mc ms cc ce hd hpc (N : Int) = true) (h0 : zt_c0 cc A TY PHI cl FT MT SG PHS R nL mc ms ce HD hpc = true) (hP : zt_cP cc A TY PHI cl FT MT SG PHS R nL mc ms ce HD hpc ce.2.1 = true)
    {ls : Array Slot} (hls : z_ls nL ls [.ref b, .int (Int32.ofNat L)] [(0, 0)]) : W p l e R s m args below meth c s.heap [] 0 0 Q (F0 m 0 ls []) := by
  have hLi : (Int32.ofNat L).toInt = (L : Int) := Int32.toInt_ofNat_of_lt (by omega)
  have hsat : z_sat OB D DA cl TY PHI s.heap.size none false (fun _ => none) s.heap [.ref b, .int (Int32.ofNat L)] nL (zm_st0 (N : Int)) (fun _ => none) s.heap [] [.ref b, .int (Int32.ofNat L)] ls [] := by
    refine ⟨rfl, ⟨[], by rw [List.append_nil]⟩, hls, rfl, fun q hq => ?_, fun q hq => absurd hq List.not_mem_nil, fun q hq => absurd hq List.not_mem_nil, fun q hq => absurd hq List.not_mem_nil, trivial, ⟨fun a t ht => absurd ht (by simp), fun a t ci fl ha => absurd ha (by simp), fun a a' t t' ci fl fl' ha => absurd ha (by simp)⟩, ⟨fun a t ht => absurd ht (by simp), fun h => absurd h (by simp), z_fin_rf⟩, fun a t ht => absurd ht (by simp), fun q _ _ _ => ⟨rfl, rfl⟩, va_S.rf⟩
    rcases List.mem_cons.mp hq with rfl | hq
    · exact ⟨_, rfl, by show _ = Value.ref (OB 0); rw [hOB]⟩
    rcases List.mem_cons.mp hq with rfl | hq
    · exact ⟨_, rfl, _, rfl, by rw [z_in, hLi]; exact ⟨by show (0 : Int) ≤ _; omega, by show _ ≤ (N : Int); omega⟩⟩
    cases hq
  refine z_runs (CU := []) (ng := 2) (ends := fun env : List Value => env[0]? = some (Value.ref b) ∧ env[1]? = some (Value.int (Int32.ofNat L))) (fun env1 env2 he hgh => ⟨(hgh 0 (by omega)).trans he.1, (hgh 1 (by omega)).trans he.2⟩) (fun env1 pc st Ls he hL2 hall => ?_) (stp := zm_stp TY PHI cl FT MT SG PHS R nL mc ms cc ce.1 (zm_hs hd hpc)) (fuel := ce.2.2) rfl hS ⟨rfl, rfl⟩ (Nat.le_refl _) hsat
  have hgg : z_Good p l e R s m args below meth c Q OB D DA cl TY PHI s.heap.size none false (fun _ => none) s.heap env1 nL (fun pc st => ∀ T2 H2 locs2 env2 ls2 stk2, z_sat OB D DA cl TY PHI s.heap.size none false (fun _ => none) s.heap env1 nL st T2 H2 locs2 env2 ls2 stk2 → W p l e R s m args below meth c H2 locs2 (z_C st).1 (z_C st).2 Q (F0 m pc ls2 stk2)) := fun _ _ => Iff.rfl
  unfold zm_stp z_hst at hL2
  split at hL2
  · rename_i L3 hL3
    cases hL2
    unfold zm_hs at hL3
    obtain ⟨hc, -⟩ := z_cond hL3
    rw [Bool.and_eq_true] at hc
    have hpc2 := z_beq hc.1
    subst hpc2
    refine zm_fit_ok (i' := 0) (hn hd hhd) hgg he.1 he.2 (fun T H locs env ls stk d h hv => ?_) (zt_loop hx hb hml hX hbl hN hL hOB hD hXp hKX hKS hin hPH hok hend hn hV h0 hP (N + 1) 0 (by omega) (by omega) hd hhd) hc.2
    unfold zm_iv0 at hv
    split at hv
    · rename_i r hr
      rw [Bool.and_eq_true] at hv
      obtain ⟨v, g1, x, rfl, g2⟩ := z_get_ok h.2.2.2.2.1 hr
      have a1 := z_ile_ok hv.1
      have a2 := z_ile_ok hv.2
      have b1 := g2.1
      have b2 := g2.2
      have : x = 0 := z_int0 (by omega)
      rw [g1, this]
      rfl
    · cases hv
  · exact z_stp_ok hgg hx hb hml hD (Nat.le_refl _) hXp hKX hKS (fun j hj => by rw [hin] at hj; cases hj) hPH hok (fun pc st hd hf => by cases hf) (fun pc st hd hf => zl_fin_ok hgg rfl hend hd hf) hL2 hall
end ZPHASE4
