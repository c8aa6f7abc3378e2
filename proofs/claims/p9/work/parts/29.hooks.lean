/-! The same in pieces, and with a step of its own: a hook. -/
abbrev zHk : Type := Nat → zS → Option (List (Nat × zS))
def z_non : zHk := fun _ _ => none
def z_hst (hk : zHk) (stp : Nat → zS → Option (List (Nat × zS))) (pc : Nat) (st : zS) : Option (List (Nat × zS)) := match hk pc st with
  | some L => some L
  | none => stp pc st
def z_chk0 (hk : zHk) (TY : List zTy) (PHI : List (List Nat)) (cl : List vw_C) (FT : Nat → Nat → FieldType) (MT : List zM) (SG : List (Nat × zSig)) (RO PHS : List Nat) (mm : zM) (g : zSig) (ce : zCe) : Bool := match z_ent TY cl FT mm.2.2.1 g with
  | some (st0, ws) => z_run (z_hst hk (z_stp TY PHI cl FT MT SG RO PHS (z_room g) (g_pur g) mm.2.2.1 ce.1 mm.2.1 (z_finV TY cl g ws mm.2.2.2.1) (z_iret TY cl g ws mm.2.2.2.1))) (z_cut ce.2.1 (z_n st0) none) ce.2.2 0 st0
  | none => false
def z_chkP (hk : zHk) (TY : List zTy) (PHI : List (List Nat)) (cl : List vw_C) (FT : Nat → Nat → FieldType) (MT : List zM) (SG : List (Nat × zSig)) (RO PHS : List Nat) (mm : zM) (g : zSig) (ce : zCe) (P : List zCu) : Bool := match z_ent TY cl FT mm.2.2.1 g with
  | some (st0, ws) => P.all (fun k => k.2.2.2.2.all (fun q => Nat.blt q.1 (z_n k.2.1)) && z_run (z_hst hk (z_stp TY PHI cl FT MT SG RO PHS (z_room g) (g_pur g) mm.2.2.1 ce.1 mm.2.1 (z_finV TY cl g ws mm.2.2.2.1) (z_iret TY cl g ws mm.2.2.2.1))) (z_cut ce.2.1 (z_n st0) (some k.2.2.2)) ce.2.2 k.1 k.2.1)
  | none => false
section ZHOOK
variable {cl : List vw_C} {FT : Nat → Nat → FieldType} {TY : List zTy} {PHI : List (List Nat)} {KXf : (Nat → Nat) → Nat → State → Heap → Prop} {TBL : List Cond} {MT : List zM} {SG : List (Nat × zSig)} {RO PHS : List Nat} {hk : zHk} {mm : zM} {g : zSig} {ce : zCe}
theorem z_chkP_app {A B : List zCu} (h1 : z_chkP hk TY PHI cl FT MT SG RO PHS mm g ce A = true) (h2 : z_chkP hk TY PHI cl FT MT SG RO PHS mm g ce B = true) : z_chkP hk TY PHI cl FT MT SG RO PHS mm g ce (A ++ B) = true := by
  unfold z_chkP at h1 h2 ⊢
  split at h1
  · rename_i st0 ws hent
    rw [hent] at h2
    have h2 : B.all _ = true := h2
    show (A ++ B).all _ = true
    rw [List.all_append, Bool.and_eq_true]
    exact ⟨h1, h2⟩
  · cases h1
/-- what a hook must keep -/
def z_hok (TBL : List Cond) (cl : List vw_C) (TY : List zTy) (PHI : List (List Nat)) (KXf : (Nat → Nat) → Nat → State → Heap → Prop) (mm : zM) (g : zSig) (hk : zHk) : Prop :=
  ∀ (p : Program) (l : Launch) (e : Env) (s : State) (m : MethodId) (args : Array Value) (below : List Frame) (meth : Method) (c : Code) (Q : State → Prop) (OB : Nat → Nat) (D : va_G) (DA : Nat → ClassId) (sz : Nat) (raw : Option Nat) (T0 : zTp) (H0 : Heap) (env0 : List Value) (good : Nat → zS → Prop),
    z_Good p l e (z_room g) s m args below meth c Q OB D DA cl TY PHI sz raw (g_pur g) T0 H0 env0 mm.2.2.1 good → p.tables.exec = Jvm.exec → c.code = mm.2.1 → c.maxLocals = mm.2.2.1 → z_Dy s m args (Cond.code mm.1 mm.2.1 mm.2.2.1 mm.2.2.2.1 :: TBL) mm.1.cls D cl DA (z_tys DA) → sz ≤ H0.size → KXf OB sz s H0 →
    ∀ pc st L, hk pc st = some L → (∀ q ∈ L, good q.1 q.2) → good pc st
theorem z_non_ok : z_hok TBL cl TY PHI KXf mm g z_non := by
  intro p l e s m args below meth c Q OB D DA sz raw T0 H0 env0 good _ _ _ _ _ _ _ pc st L h
  cases h
theorem z_methH (hpl : plainFor mm.1 = true) (hKS : z_KS (Cond.code mm.1 mm.2.1 mm.2.2.1 mm.2.2.2.1 :: TBL) TBL cl FT mm.1.cls MT ce.1) (hin : ∀ j, k_IN ce.1 = some j → mm.1.name = "<init>") (hXp : ∀ OB sz, z_KXp sz (KXf OB sz)) (hPH : ∀ a ∈ PHS, z_phok TY PHI a = true)
    (hok : ∀ g ∈ (k_CA ce.1).filterMap (fun a => SG[a.2]?), ∀ m2, MT[g.1]? = some m2 → z_OK TBL cl FT TY PHI KXf m2.1 m2.2.1 m2.2.2.1 m2.2.2.2.1 g.2) (hH : z_hok TBL cl TY PHI KXf mm g hk) (h0 : z_chk0 hk TY PHI cl FT MT SG RO PHS mm g ce = true) (hP : z_chkP hk TY PHI cl FT MT SG RO PHS mm g ce ce.2.1 = true) : z_OK TBL cl FT TY PHI KXf mm.1 mm.2.1 mm.2.2.1 mm.2.2.2.1 g := by
  intro l OB D DA sz T
  refine va_MetF (cc := mm.2.1) (maxL := mm.2.2.1) (ret := mm.2.2.2.1) hpl rfl ?_
  intro p e s m args below meth c s₁ B hml hPre
  unfold z_chk0 at h0
  unfold z_chkP at hP
  split at h0
  · rename_i st0 ws hent
    rw [hent] at hP
    have hP : ce.2.1.all _ = true := hP
    obtain ⟨vals, e0, hrest⟩ := hPre
    subst e0
    have hPre2 : z_Pre OB D DA cl FT TY sz (KXf OB sz) g T vals.toArray s := ⟨vals, rfl, hrest⟩
    obtain ⟨hl, h1, h2, h3, h4, h5, hsz, hK, hX⟩ := hrest
    obtain ⟨hcat, hn, env, raw, hraw, hsat, hlen, hvals, hwl, hws⟩ := z_ent_ok (pu := g_pur g) (PHI := PHI) hPre2 hent
    have hts : ∀ w ∈ (Cond.code mm.1 mm.2.1 mm.2.2.1 mm.2.2.2.1 :: TBL), w.before vals.toArray s = true := atoms_spec (ws := Cond.code mm.1 mm.2.1 mm.2.2.1 mm.2.2.2.1 :: TBL) B.pre
    have hown : s.vm.findClass mm.1.cls = some m.cls := findClass_of_methodNamed B.named
    have hD : z_Dy s m vals.toArray (Cond.code mm.1 mm.2.1 mm.2.2.1 mm.2.2.2.1 :: TBL) mm.1.cls D cl DA (z_tys DA) := ⟨hts, hown, hK, z_tys_ok DA⟩
    have hname : meth.name = mm.1.name := (name_of_methodNamed B.named B.method).1
    rw [lg_entry_eq]
    have hng : z_n st0 ≤ env.length := by rw [hsat.1]; exact Nat.le_refl _
    have hE0 : z_Ent D cl g raw (g_pur g) s.heap env vals ws := ⟨hraw, fun h => h, hlen, hvals, hwl, hws⟩
    have hC : z_C st0 = (0, 0) ∨ True := Or.inr trivial
    refine W.widen (Nat.zero_le _) (Nat.zero_le _) (z_runs (ng := z_n st0) (ends := fun env2 => z_Ent D cl g raw (g_pur g) s.heap env2 vals ws ∧ (∀ i, i < z_n st0 → env2[i]? = env[i]?)) (fun env1 env2 he hgh => ?_) (fun env1 pc st L he hL hall => ?_) hP h0 ⟨hE0, fun _ _ => rfl⟩ hng hsat)
    · obtain ⟨⟨a1, a2, a3, a4, a5, a6⟩, a7⟩ := he
      have all : ∀ i, i < z_n st0 → env2[i]? = env[i]? := fun i hi => (hgh i hi).trans (a7 i hi)
      refine ⟨⟨a1, a2, a3, fun j v hj => ?_, a5, fun i q w hi hw => ?_⟩, all⟩
      · have hv := hvals j v hj
        have hlt : j < z_n st0 := by rw [← hsat.1]; exact (List.getElem?_eq_some_iff.mp hv).1
        rw [all j hlt]; exact hv
      · obtain ⟨v, y1, y2⟩ := hws i q w hi hw
        have hlt : w < z_n st0 := by rw [← hsat.1]; exact (List.getElem?_eq_some_iff.mp y1).1
        exact ⟨v, by rw [all w hlt]; exact y1, y2⟩
    · unfold z_hst at hL
      split at hL
      · rename_i L2 hL2
        cases hL
        exact hH p l e s m vals.toArray below meth c _ OB D DA sz raw T s.heap env1 (fun pc st => ∀ T2 H2 locs2 env2 ls2 stk2, z_sat OB D DA cl TY PHI sz raw (g_pur g) T s.heap env1 mm.2.2.1 st T2 H2 locs2 env2 ls2 stk2 → W p l e (z_room g) s m vals.toArray below meth c H2 locs2 (z_C st).1 (z_C st).2 (MQ below (z_Post OB D DA cl TY PHI sz g T) vals.toArray s (g_mk g).1 (g_mk g).2 (fun q => sz ≤ q)) (F0 m pc ls2 stk2)) (fun _ _ => Iff.rfl) B.exec B.bytes hml hD hsz hX pc st L hL2 hall
      refine z_stp_ok (good := fun pc st => ∀ T2 H2 locs2 env2 ls2 stk2, z_sat OB D DA cl TY PHI sz raw (g_pur g) T s.heap env1 mm.2.2.1 st T2 H2 locs2 env2 ls2 stk2 → W p l e (z_room g) s m vals.toArray below meth c H2 locs2 (z_C st).1 (z_C st).2 (MQ below (z_Post OB D DA cl TY PHI sz g T) vals.toArray s (g_mk g).1 (g_mk g).2 (fun q => sz ≤ q)) (F0 m pc ls2 stk2)) (fun _ _ => Iff.rfl) B.exec B.bytes hml hD hsz (hXp OB sz) hX hKS (fun j hj => by rw [hname]; exact hin j hj) hPH hok (fun pc st hd hf => ?_) (fun pc st hd hf => ?_) hL hall
      · unfold z_finV at hf
        simp only [Bool.and_eq_true] at hf
        obtain ⟨⟨f1, f2⟩, f3⟩ := hf
        have hr : meth.sig.returnType = none := by rw [B.returns]; exact Option.isNone_iff_eq_none.mp f2
        exact z_r_vret (fun _ _ => Iff.rfl) B.exec B.bytes hr B.notSynchronized he.1 hd (List.isEmpty_iff.mp f1) f3
      · exact z_r_iret (fun _ _ => Iff.rfl) B.exec B.bytes B.returns B.notSynchronized he.1 hd hf
  · cases h0
end ZHOOK
