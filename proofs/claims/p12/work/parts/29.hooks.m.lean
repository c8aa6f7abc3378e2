/-! 29.hooks, 30.strings, 32.words, 34.weak, 35.loop, 36.loop2, 37.start, 37a.kx, 37b.words -/
section
/-! The same in pieces, and with a step of its own: a hook. -/
abbrev zHk : Type := Nat → zS → Option (List (Nat × zS))
def z_non : zHk := fun _ _ => none
def z_hst (hk : zHk) (stp : Nat → zS → Option (List (Nat × zS))) (pc : Nat) (st : zS) : Option (List (Nat × zS)) := match hk pc st with
  | some L => some L
  | none => stp pc st
def z_chk0 (hk : zHk) (TY : List zTy) (PHI : List (List Nat)) (cl : List vw_C) (FT : Nat → Nat → FieldType) (MT : List zM) (SG : List (Nat × zSig)) (RO PHS : List Nat) (mm : zM) (g : zSig) (ce : zCe) : Bool := match z_ent TY cl FT mm.2.2.1 g with
  | some (st0, ws) => z_run (z_hst hk (z_stp TY PHI cl FT MT SG RO PHS (z_room g) (g_pur g) mm.2.2.1 ce.1 mm.2.1 (z_finV TY cl g ws mm.2.2.2.1) (z_iret TY cl g ws mm.2.2.2.1))) (z_cut ce.2.1 (z_n st0) none) ce.2.2 0 st0
  | none => false
def z_chkP (hk : zHk) (TY : List zTy) (PHI : List (List Nat)) (cl : List vw_C) (FT : Nat → Nat → FieldType) (MT : List zM) (SG : List (Nat × zSig)) (RO PHS : List Nat) (mm : zM) (g : zSig) (ce : zCe) (P : List zCu) : Bool := match z_ent TY cl FT mm.2.2.1 g with
  | some (st0, ws) => P.all (fun k => k.2.2.2.2.all (fun q => Nat.blt q.1 (z_n k.2.1)) && z_run (z_hst hk (z_stp TY PHI cl FT MT SG RO PHS (z_room g) (g_pur g) mm.2.2.1 ce.1 mm.2.1 (z_finV TY cl g ws mm.2.2.2.1) (z_iret TY cl g ws mm.2.2.2.1))) (z_cut ce.2.1 (z_n st0) (some k.2.2.2)) ce.2.2 k.1 k.2.1)
  | none => false
section ZHOOK
variable {cl : List vw_C} {FT : Nat → Nat → FieldType} {TY : List zTy} {PHI : List (List Nat)} {KXf : (Nat → Nat) → Nat → State → Heap → Prop} {TBL : List Cond} {MT : List zM} {SG : List (Nat × zSig)} {RO PHS : List Nat} {hk : zHk} {mm : zM} {g : zSig} {ce : zCe}
theorem z_chkP_app {A B : List zCu} (h1 : z_chkP hk TY PHI cl FT MT SG RO PHS mm g ce A = true) (h2 : z_chkP hk TY PHI cl FT MT SG RO PHS mm g ce B = true) : z_chkP hk TY PHI cl FT MT SG RO PHS mm g ce (A ++ B) = true := by
  unfold z_chkP at h1 h2 ⊢
  split at h1
  · rename_i st0 ws hent
    rw [hent] at h2
    have h2 : B.all _ = true := h2
    show (A ++ B).all _ = true
    rw [List.all_append, Bool.and_eq_true]
    exact ⟨h1, h2⟩
  · cases h1
/-- what a hook must keep -/
def z_hok (TBL : List Cond) (cl : List vw_C) (TY : List zTy) (PHI : List (List Nat)) (KXf : (Nat → Nat) → Nat → State → Heap → Prop) (mm : zM) (g : zSig) (hk : zHk) : Prop :=
  ∀ (p : Program) (l : Launch) (e : Env) (s : State) (m : MethodId) (args : Array Value) (below : List Frame) (meth : Method) (c : Code) (Q : State → Prop) (OB : Nat → Nat) (D : va_G) (DA : Nat → ClassId) (sz : Nat) (raw : Option Nat) (T0 : zTp) (H0 : Heap) (env0 : List Value) (good : Nat → zS → Prop),
    z_Good p l e (z_room g) s m args below meth c Q OB D DA cl TY PHI sz raw (g_pur g) T0 H0 env0 mm.2.2.1 good → p.tables.exec = Jvm.exec → c.code = mm.2.1 → c.maxLocals = mm.2.2.1 → z_Dy s m args (Cond.code mm.1 mm.2.1 mm.2.2.1 mm.2.2.2.1 :: TBL) mm.1.cls D cl DA (z_tys DA) → sz ≤ H0.size → KXf OB sz s H0 →
    ∀ pc st L, hk pc st = some L → (∀ q ∈ L, good q.1 q.2) → good pc st
theorem z_non_ok : z_hok TBL cl TY PHI KXf mm g z_non := by
  intro p l e s m args below meth c Q OB D DA sz raw T0 H0 env0 good _ _ _ _ _ _ _ pc st L h
  cases h
theorem z_methH (hpl : plainFor mm.1 = true) (hKS : z_KS (Cond.code mm.1 mm.2.1 mm.2.2.1 mm.2.2.2.1 :: TBL) TBL cl FT mm.1.cls MT ce.1) (hin : ∀ j, k_IN ce.1 = some j → mm.1.name = "<init>") (hXp : ∀ OB sz, z_KXp sz (KXf OB sz)) (hPH : ∀ a ∈ PHS, z_phok TY PHI a = true)
    (hok : ∀ g ∈ (k_CA ce.1).filterMap (fun a => SG[a.2]?), ∀ m2, MT[g.1]? = some m2 → z_OK TBL cl FT TY PHI KXf m2.1 m2.2.1 m2.2.2.1 m2.2.2.2.1 g.2) (hH : z_hok TBL cl TY PHI KXf mm g hk) (h0 : z_chk0 hk TY PHI cl FT MT SG RO PHS mm g ce = true) (hP : z_chkP hk TY PHI cl FT MT SG RO PHS mm g ce ce.2.1 = true) : z_OK TBL cl FT TY PHI KXf mm.1 mm.2.1 mm.2.2.1 mm.2.2.2.1 g := by
  intro l OB D DA sz T
  refine va_MetF (cc := mm.2.1) (maxL := mm.2.2.1) (ret := mm.2.2.2.1) hpl rfl ?_
  intro p e s m args below meth c s₁ B hml hPre
  unfold z_chk0 at h0
  unfold z_chkP at hP
  split at h0
  · rename_i st0 ws hent
    rw [hent] at hP
    have hP : ce.2.1.all _ = true := hP
    obtain ⟨vals, e0, hrest⟩ := hPre
    subst e0
    have hPre2 : z_Pre OB D DA cl FT TY sz (KXf OB sz) g T vals.toArray s := ⟨vals, rfl, hrest⟩
    obtain ⟨hl, h1, h2, h3, h4, h5, hsz, hK, hX⟩ := hrest
    obtain ⟨hcat, hn, env, raw, hraw, hsat, hlen, hvals, hwl, hws⟩ := z_ent_ok (pu := g_pur g) (PHI := PHI) hPre2 hent
    have hts : ∀ w ∈ (Cond.code mm.1 mm.2.1 mm.2.2.1 mm.2.2.2.1 :: TBL), w.before vals.toArray s = true := atoms_spec (ws := Cond.code mm.1 mm.2.1 mm.2.2.1 mm.2.2.2.1 :: TBL) B.pre
    have hown : s.vm.findClass mm.1.cls = some m.cls := findClass_of_methodNamed B.named
    have hD : z_Dy s m vals.toArray (Cond.code mm.1 mm.2.1 mm.2.2.1 mm.2.2.2.1 :: TBL) mm.1.cls D cl DA (z_tys DA) := ⟨hts, hown, hK, z_tys_ok DA⟩
    have hname : meth.name = mm.1.name := (name_of_methodNamed B.named B.method).1
    rw [lg_entry_eq]
    have hng : z_n st0 ≤ env.length := by rw [hsat.1]; exact Nat.le_refl _
    have hE0 : z_Ent D cl g raw (g_pur g) s.heap env vals ws := ⟨hraw, fun h => h, hlen, hvals, hwl, hws⟩
    have hC : z_C st0 = (0, 0) ∨ True := Or.inr trivial
    refine W.widen (Nat.zero_le _) (Nat.zero_le _) (z_runs (ng := z_n st0) (ends := fun env2 => z_Ent D cl g raw (g_pur g) s.heap env2 vals ws ∧ (∀ i, i < z_n st0 → env2[i]? = env[i]?)) (fun env1 env2 he hgh => ?_) (fun env1 pc st L he hL hall => ?_) hP h0 ⟨hE0, fun _ _ => rfl⟩ hng hsat)
    · obtain ⟨⟨a1, a2, a3, a4, a5, a6⟩, a7⟩ := he
      have all : ∀ i, i < z_n st0 → env2[i]? = env[i]? := fun i hi => (hgh i hi).trans (a7 i hi)
      refine ⟨⟨a1, a2, a3, fun j v hj => ?_, a5, fun i q w hi hw => ?_⟩, all⟩
      · have hv := hvals j v hj
        have hlt : j < z_n st0 := by rw [← hsat.1]; exact (List.getElem?_eq_some_iff.mp hv).1
        rw [all j hlt]; exact hv
      · obtain ⟨v, y1, y2⟩ := hws i q w hi hw
        have hlt : w < z_n st0 := by rw [← hsat.1]; exact (List.getElem?_eq_some_iff.mp y1).1
        exact ⟨v, by rw [all w hlt]; exact y1, y2⟩
    · unfold z_hst at hL
      split at hL
      · rename_i L2 hL2
        cases hL
        exact hH p l e s m vals.toArray below meth c _ OB D DA sz raw T s.heap env1 (fun pc st => ∀ T2 H2 locs2 env2 ls2 stk2, z_sat OB D DA cl TY PHI sz raw (g_pur g) T s.heap env1 mm.2.2.1 st T2 H2 locs2 env2 ls2 stk2 → W p l e (z_room g) s m vals.toArray below meth c H2 locs2 (z_C st).1 (z_C st).2 (MQ below (z_Post OB D DA cl TY PHI sz g T) vals.toArray s (g_mk g).1 (g_mk g).2 (fun q => sz ≤ q)) (F0 m pc ls2 stk2)) (fun _ _ => Iff.rfl) B.exec B.bytes hml hD hsz hX pc st L hL2 hall
      refine z_stp_ok (good := fun pc st => ∀ T2 H2 locs2 env2 ls2 stk2, z_sat OB D DA cl TY PHI sz raw (g_pur g) T s.heap env1 mm.2.2.1 st T2 H2 locs2 env2 ls2 stk2 → W p l e (z_room g) s m vals.toArray below meth c H2 locs2 (z_C st).1 (z_C st).2 (MQ below (z_Post OB D DA cl TY PHI sz g T) vals.toArray s (g_mk g).1 (g_mk g).2 (fun q => sz ≤ q)) (F0 m pc ls2 stk2)) (fun _ _ => Iff.rfl) B.exec B.bytes hml hD hsz (hXp OB sz) hX hKS (fun j hj => by rw [hname]; exact hin j hj) hPH hok (fun pc st hd hf => ?_) (fun pc st hd hf => ?_) hL hall
      · unfold z_finV at hf
        simp only [Bool.and_eq_true] at hf
        obtain ⟨⟨f1, f2⟩, f3⟩ := hf
        have hr : meth.sig.returnType = none := by rw [B.returns]; exact Option.isNone_iff_eq_none.mp f2
        exact z_r_vret (fun _ _ => Iff.rfl) B.exec B.bytes hr B.notSynchronized he.1 hd (List.isEmpty_iff.mp f1) f3
      · exact z_r_iret (fun _ _ => Iff.rfl) B.exec B.bytes B.returns B.notSynchronized he.1 hd hf
  · cases h0
end ZHOOK
end
section
/-! The length of a string constant, by hand. -/
def zs_K (own tx : String) (k n : Nat) (OB : Nat → Nat) (sz : Nat) (U : State) (H : Heap) : Prop := ∃ (adV : Nat) (f : Nat → Value), vk_R own k tx (OB 1) U ∧ va_O "java/lang/String" (OB 1) (fun q => sz ≤ q) U H ∧ va_OF "java/lang/String" "coder" "B" (.int 0) (OB 1) (fun q => sz ≤ q) U H ∧ va_OF "java/lang/String" "value" "[B" (.ref adV) (OB 1) (fun q => sz ≤ q) U H ∧ va_T .byte adV n f (fun q => sz ≤ q) U H ∧ va_Z "java/lang/String" "COMPACT_STRINGS" "Z" (.int 1) (fun q => sz ≤ q) U H
theorem zs_K_p {own tx : String} {k n : Nat} {OB : Nat → Nat} {sz : Nat} : z_KXp sz (zs_K own tx k n OB sz) := by
  refine ⟨fun s U H h hW => ?_, fun s H H1 h _ hq => ?_, fun u U H hvm h => ?_⟩
  · obtain ⟨adV, f, k1, k2, k3, k4, k5, k6⟩ := h
    exact ⟨adV, f, vk_R.warm hW k1, va_O.moved hW.alike k2, va_OF.moved hW.alike k3, va_OF.moved hW.alike k4, va_T.moved hW.alike k5, va_Z.moved hW.alike k6⟩
  · obtain ⟨adV, f, k1, k2, k3, k4, k5, k6⟩ := h
    exact ⟨adV, f, k1, k2.kept hq, k3.kept hq, k4.kept hq, k5.kept hq, k6.kept hq⟩
  · obtain ⟨adV, f, k1, k2, k3, k4, k5, k6⟩ := h
    have ha : u.vm.Alike U.vm := by rw [hvm]; exact Vm.Alike.refl _
    exact ⟨adV, f, vk_R.same hvm k1, va_O.moved ha k2, va_OF.moved ha k3, va_OF.moved ha k4, va_T.moved ha k5, va_Z.moved ha k6⟩
def zs_P (own tx : String) (k n : Nat) (OB : Nat → Nat) (sz : Nat) (args : Array Value) (U : State) : Prop := args = ([.ref (OB 1)] : List Value).toArray ∧ zs_K own tx k n OB sz U U.heap
theorem zs_blind {own tx : String} {k n : Nat} {OB : Nat → Nat} {sz : Nat} : FrameBlind (zs_P own tx k n OB sz) := fun a U gf mk h => ⟨h.1, zs_K_p.2.2 U (U.calling gf mk a) _ rfl h.2⟩
abbrev zs_yC : MethodName := ⟨"java/lang/String", "coder", "()B"⟩
abbrev zs_yL : MethodName := ⟨"java/lang/String", "length", "()I"⟩
def zs_w : List Cond := [Cond.fieldLink "java/lang/String" 38 "java/lang/String" "COMPACT_STRINGS" "Z", Cond.fieldLink "java/lang/String" 15 "java/lang/String" "coder" "B", Cond.fieldLink "java/lang/String" 9 "java/lang/String" "value" "[B", Cond.methodLink "java/lang/String" 335 zs_yC, Cond.instanceMethod zs_yC, Cond.selects "java/lang/String" zs_yC zs_yC, Cond.initialized "java/lang/String", Cond.code zs_yC prog_18_method_152_code 1 (some .byte), Cond.code zs_yL prog_18_method_54_code 1 (some .int), Cond.instanceMethod zs_yL, Cond.selects "java/lang/String" zs_yL zs_yL]
section ZSTR
variable {TBL : List Cond} {own tx : String} {k n : Nat} {OB : Nat → Nat} {sz : Nat}
theorem zs_coder (l : Launch) (hw : ∀ w ∈ zs_w, w ∈ TBL) : Met l zs_yC (Cond.code zs_yC prog_18_method_152_code 1 (some .byte) :: TBL) { frames := 0, cells := 0, slots := 0, locals := 0 } (zs_P own tx k n OB sz) (QcRead 0) 0 0 (fun _ => False) := by
  refine Met.ofW (cc := prog_18_method_152_code) (maxL := 1) (ret := some .byte) rfl rfl ?_
  intro p e s m args below meth c s₁ B hml hPre
  obtain ⟨rfl, adV, f, k1, k2, k3, k4, k5, k6⟩ := hPre
  have hts : ∀ w ∈ (Cond.code zs_yC prog_18_method_152_code 1 (some .byte) :: TBL), w.before ([.ref (OB 1)] : List Value).toArray s = true := atoms_spec (ws := Cond.code zs_yC prog_18_method_152_code 1 (some .byte) :: TBL) B.pre
  have hw2 : ∀ w ∈ zs_w, w.before ([.ref (OB 1)] : List Value).toArray s = true := fun w h => hts w (List.mem_cons_of_mem _ (hw w h))
  have hown : s.vm.findClass "java/lang/String" = some m.cls := findClass_of_methodNamed B.named
  rw [lg_entry_eq]
  have hS : va_S (fun q => sz ≤ q) s.heap s.heap [] := va_S.rf
  have hl := (lv_entry [.ref (OB 1)] (n := 1) (show (lg_sl [Value.ref (OB 1)]).length ≤ 1 from Nat.le_refl 1)).2.2 (0, .ref (OB 1)) (by simp [lv_args])
  refine va_gets B.exec B.bytes k6 hS hown (hw2 _ (List.mem_of_getElem? (i := 0) rfl)) (fun x h => h) (index := 38) (by decide +kernel) ?_
  refine lv_if_eq B.exec B.bytes (tgt := 13) (off := 10) (by decide +kernel) (by decide) (fun h => absurd h (by decide)) (fun _ => ?_)
  refine lv_aload_n B.exec B.bytes (k := 0) (i := 0) (by decide +kernel) rfl hl ?_
  refine vk_getf B.exec B.bytes k3 hS hown (hw2 _ (List.mem_of_getElem? (i := 1) rfl)) (fun x h => h) (index := 15) (by decide +kernel) ?_
  refine lv_goto B.exec B.bytes (off := 4) (tgt := 14) (by decide +kernel) (by decide) ?_
  exact W.zret B.exec B.bytes B.returns rfl (fun t ht _ => ⟨rfl, ht⟩) (fun q hq => absurd hq List.not_mem_nil) (by decide +kernel) B.notSynchronized
theorem zs_length (l : Launch) (hw : ∀ w ∈ zs_w, w ∈ TBL) (hgd : ∀ w ∈ TBL, z_gw w = true) (hn : n < 2147483648) : Met l zs_yL (Cond.code zs_yL prog_18_method_54_code 1 (some .int) :: TBL) { frames := 1, cells := 0, slots := 0, locals := 20 } (zs_P own tx k n OB sz) (QcRead (Int32.ofNat n)) 0 0 (fun _ => False) := by
  refine Met.ofW (cc := prog_18_method_54_code) (maxL := 1) (ret := some .int) rfl rfl ?_
  intro p e s m args below meth c s₁ B hml hPre
  obtain ⟨rfl, hK⟩ := hPre
  have hK0 := hK
  obtain ⟨adV, f, k1, k2, k3, k4, k5, k6⟩ := hK
  have hts : ∀ w ∈ (Cond.code zs_yL prog_18_method_54_code 1 (some .int) :: TBL), w.before ([.ref (OB 1)] : List Value).toArray s = true := atoms_spec (ws := Cond.code zs_yL prog_18_method_54_code 1 (some .int) :: TBL) B.pre
  have hw2 : ∀ w ∈ zs_w, w.before ([.ref (OB 1)] : List Value).toArray s = true := fun w h => hts w (List.mem_cons_of_mem _ (hw w h))
  have hown : s.vm.findClass "java/lang/String" = some m.cls := findClass_of_methodNamed B.named
  rw [lg_entry_eq]
  have hS : va_S (fun q => sz ≤ q) s.heap s.heap [] := va_S.rf
  have hlv := lv_entry [.ref (OB 1)] (n := 1) (show (lg_sl [Value.ref (OB 1)]).length ≤ 1 from Nat.le_refl 1)
  have hl := hlv.2.2 (0, .ref (OB 1)) (by simp [lv_args])
  have hwsG : ∀ w ∈ (Cond.code zs_yC prog_18_method_152_code 1 (some .byte) :: TBL), ∀ (a' : Array Value) (U : State), s.WarmedH U.vm → w.before a' U = true := by
    refine z_pay hts (fun w h => ?_)
    rcases List.mem_cons.mp h with rfl | h
    · exact ⟨List.mem_cons_of_mem _ (hw _ (List.mem_of_getElem? (i := 7) rfl)), rfl⟩
    · exact ⟨List.mem_cons_of_mem _ h, hgd w h⟩
  refine lv_aload_n B.exec B.bytes (k := 0) (i := 0) (by decide +kernel) rfl hl ?_
  refine vk_getf B.exec B.bytes k4 hS hown (hw2 _ (List.mem_of_getElem? (i := 2) rfl)) (fun x h => h) (index := 9) (by decide +kernel) ?_
  refine va_tlen B.exec B.bytes k5 hS rfl (by decide +kernel) ?_
  have d1 : decode prog_18_method_54_code 6 = .ok (.invokevirtual 335, 3) := by decide +kernel
  have d2 : decode prog_18_method_54_code 9 = .ok (.ishr, 1) := by decide +kernel
  have d3 : decode prog_18_method_54_code 10 = .ok (.ireturn, 1) := by decide +kernel
  refine lv_aload_n B.exec B.bytes (k := 0) (i := 0) (by decide +kernel) rfl hl ?_
  refine W.callR (W.runV (b := OB 1) (As := []) (rest := [.int (Int32.ofNat n)]) (C := "java/lang/String") (n := 0) (index := 335) ⟨B.exec, B.bytes, hml, hown, hts⟩ (zs_coder (own := own) (tx := tx) (k := k) (n := n) (OB := OB) (sz := sz) l hw) ⟨⟨rfl, rfl, Nat.le_refl _, Nat.le_refl _, hwsG, List.mem_cons_self, hw2 _ (List.mem_of_getElem? (i := 7) rfl), hw2 _ (List.mem_of_getElem? (i := 6) rfl), by decide, fun sig h => ?_, hw2 _ (List.mem_of_getElem? (i := 3) rfl)⟩, hw2 _ (List.mem_of_getElem? (i := 4) rfl), hw2 _ (List.mem_of_getElem? (i := 5) rfl)⟩ ⟨zs_blind, ?_, fun U hU hW => ⟨rfl, ?_⟩⟩ rfl rfl ?_ rfl ?_ d1 ⟨Nat.le_refl _, Nat.le_refl _⟩) ?_
  · have : (parseMethodDescriptor "()B").map (fun d => d.parameters.length) = some 0 := by decide +kernel
    rw [h] at this
    exact (Option.some.inj this).symm
  · obtain ⟨cell, y1, y2, y3, -⟩ := k2
    exact ⟨cell, y1, y2, y3⟩
  · rw [hU]
    exact zs_K_p.1 s U s.heap hK0 hW
  · exact hlv.1
  · show 2 * 0 + _ ≤ 8
    exact (by decide : 2 * 0 + 1 ≤ 8)
  · refine lv_ishr (pc := 9) B.exec B.bytes d2 ?_
    have e0 : (Int32.ofNat n) >>> ((0 : Int32) &&& 31) = Int32.ofNat n := sc_shr0 hn
    rw [e0]
    exact W.iret B.exec B.bytes B.returns (fun t ht _ => ⟨rfl, ht⟩) (fun q hq => absurd hq List.not_mem_nil) d3 B.notSynchronized
/-- the hook: a constant and its length, two instructions -/
def zs_hk (g : zSig) (p0 : Nat) (n : Int) : zHk := fun pc st => cond (Nat.beq pc p0) (match z_csum st (z_S st) with
  | some k => cond (Nat.ble k 8 && (Nat.ble (z_C st).1 (g_mk g).1 && Nat.ble (z_C st).2 (g_mk g).2)) ((z_iconst st n).map (fun s => [(p0 + 5, s)])) none
  | none => none) none
theorem zs_hk_ok {cl : List vw_C} {TY : List zTy} {PHI : List (List Nat)} {mm : zM} {g : zSig} {p0 i : Nat} {KXf : (Nat → Nat) → Nat → State → Heap → Prop} (hKX : ∀ OB sz s H, KXf OB sz s H → zs_K mm.1.cls tx k n OB sz s H) (hw : ∀ w ∈ zs_w, w ∈ TBL) (hgd : ∀ w ∈ TBL, z_gw w = true) (hn : n < 2147483648) (hlink : Cond.methodLink mm.1.cls i zs_yL ∈ TBL) (hd1 : decode mm.2.1 p0 = .ok (.ldc k, 2)) (hd2 : decode mm.2.1 (p0 + 2) = .ok (.invokevirtual i, 3)) (hR : 2 ≤ (g_rm g).1 ∧ 40 ≤ (g_rm g).2) : z_hok TBL cl TY PHI KXf mm g (zs_hk g p0 (n : Int)) := by
  intro p l e s m args below meth c Q OB D DA sz raw T0 H0 env0 good hg hx hb hml hD hsz hX pc st L hL hall
  unfold zs_hk at hL
  cases hpc : Nat.beq pc p0 with
  | false => rw [hpc] at hL; cases hL
  | true =>
    rw [hpc] at hL
    have hpc := z_beq hpc
    subst hpc
    have hL : (match z_csum st (z_S st) with
      | some k => cond (Nat.ble k 8 && (Nat.ble (z_C st).1 (g_mk g).1 && Nat.ble (z_C st).2 (g_mk g).2)) ((z_iconst st (n : Int)).map (fun s => [(pc + 5, s)])) none
      | none => none) = some L := hL
    split at hL
    · rename_i kk hkk
      cases hk8 : (Nat.ble kk 8 && (Nat.ble (z_C st).1 (g_mk g).1 && Nat.ble (z_C st).2 (g_mk g).2)) with
      | false => rw [hk8] at hL; cases hL
      | true =>
        rw [hk8] at hL
        simp only [Bool.and_eq_true] at hk8
        obtain ⟨hk8, hk9, hk10⟩ := hk8
        have hL : (z_iconst st (n : Int)).map (fun s => [(pc + 5, s)]) = some L := hL
        cases hz : z_iconst st (n : Int) with
        | none => rw [hz] at hL; cases hL
        | some st' =>
          rw [hz] at hL
          cases hL
          have k0 := hall (pc + 5, st') (List.mem_singleton.mpr rfl)
          have k0 : good (pc + 5) st' := k0
          obtain ⟨hts, hown, hK, htys⟩ := hD
          have hw2 : ∀ w ∈ zs_w, w.before args s = true := fun w h => hts w (List.mem_cons_of_mem _ (hw w h))
          refine (hg _ _).mpr fun T H locs env ls stk hs => ?_
          have hmem := hs.2.2.2.2.2.2.2.2.2
          have hcat := z_csum_ok hkk hs hs.2.2.2.1
          have hXH : zs_K mm.1.cls tx k n OB sz s H := zs_K_p.2.1 s H0 H (hKX _ _ _ _ hX) hmem.2.2.2.2.1 hmem.2.2.2.2.2.1
          have hXH0 := hXH
          obtain ⟨adV, f, k1, k2, k3, k4, k5, k6⟩ := hXH
          have hwsG : ∀ w ∈ (Cond.code zs_yL prog_18_method_54_code 1 (some .int) :: TBL), ∀ (a' : Array Value) (U : State), s.WarmedH U.vm → w.before a' U = true := by
            refine z_pay hts (fun w h => ?_)
            rcases List.mem_cons.mp h with rfl | h
            · exact ⟨List.mem_cons_of_mem _ (hw _ (List.mem_of_getElem? (i := 8) rfl)), rfl⟩
            · exact ⟨List.mem_cons_of_mem _ h, hgd w h⟩
          refine va_ldcS hx hb hown k1 hd1 ?_
          obtain ⟨lv, z1, _⟩ := hs.2.2.1
          have hlsz : ls.size = mm.2.2.1 := z1.1
          refine W.callR (W.runV (b := OB 1) (As := []) (rest := stk) (C := "java/lang/String") (n := 0) (index := i) ⟨hx, hb, hml, hown, hts⟩ (zs_length (own := mm.1.cls) (tx := tx) (k := k) (n := n) (OB := OB) (sz := sz) l hw hgd hn) ⟨⟨rfl, rfl, hR.1, hR.2, hwsG, List.mem_cons_self, hw2 _ (List.mem_of_getElem? (i := 8) rfl), hw2 _ (List.mem_of_getElem? (i := 6) rfl), by decide, fun sig h => ?_, hts _ (List.mem_cons_of_mem _ hlink)⟩, hw2 _ (List.mem_of_getElem? (i := 9) rfl), hw2 _ (List.mem_of_getElem? (i := 10) rfl)⟩ ⟨zs_blind, ?_, fun U hU hW => ⟨rfl, ?_⟩⟩ rfl rfl hlsz rfl ?_ hd2 ⟨?_, ?_⟩) ?_
          · have : (parseMethodDescriptor "()I").map (fun d => d.parameters.length) = some 0 := by decide +kernel
            rw [h] at this
            exact (Option.some.inj this).symm
          · obtain ⟨cell, y1, y2, y3, -⟩ := k2
            exact ⟨cell, y1, y2, y3⟩
          · rw [hU]
            exact zs_K_p.1 s U H hXH0 hW
          · exact lv_room (by rw [hcat]; exact Nat.le_of_ble_eq_true hk8)
          · exact Nat.le_of_ble_eq_true hk9
          · exact Nat.le_of_ble_eq_true hk10
          · obtain ⟨h1, rfl⟩ := z_cond hz
            have hv : (Int32.ofNat n).toInt = (n : Int) := Int32.toInt_ofNat_of_lt (by omega)
            have := (hg _ _).mp k0 T H locs _ ls _ (z_sat_psh hs hs.2.2.2.1 (c := .inl ((n : Int), (n : Int))) (v := .int (Int32.ofNat n)) ⟨_, rfl, by rw [z_in, hv]; exact ⟨Int.le_refl _, Int.le_refl _⟩⟩ (fun q hq => absurd hq List.not_mem_nil))
            exact this
    · cases hL
end ZSTR
end
section
/-! What the tables say of a class's places, by places in the tables. -/
def zk_at (TB : List Cond) (i : Nat) (w : Cond) : Bool := decide (TB[i]? = some w) && z_gw w
theorem zk_at_ok {TB : List Cond} {i : Nat} {w : Cond} (h : zk_at TB i w = true) : w ∈ TB.filter z_gw := by
  unfold zk_at at h
  rw [Bool.and_eq_true] at h
  exact List.mem_filter.mpr ⟨List.mem_of_getElem? (of_decide_eq_true h.1), h.2⟩
def zk_F (TB : List Cond) (cl : List vw_C) (own : String) : List (Nat × Nat × Nat) → List Nat → Bool
  | [], _ => true
  | q :: L, i :: P => (match cl[q.2.1]? with
    | some r => Nat.blt q.2.2 r.2.2 && zk_at TB i (Cond.fieldLink own q.1 (r.2.1 q.2.2).1 (r.2.1 q.2.2).2.1 (r.2.1 q.2.2).2.2.1)
    | none => false) && zk_F TB cl own L P
  | _ :: _, [] => false
def zk_C (TB : List Cond) (cl : List vw_C) (own : String) : List (Nat × Nat) → List (Nat × Nat × Nat) → Bool
  | [], _ => true
  | q :: L, i :: P => (match cl[q.2]? with
    | some r => zk_at TB i.1 (Cond.classLink own q.1 r.1) && zk_at TB i.2.1 (Cond.instantiable r.1 r.2.2) && zk_at TB i.2.2 (Cond.initialized r.1)
    | none => false) && zk_C TB cl own L P
  | _ :: _, [] => false
def zk_T (TB : List Cond) (own : String) : List (Nat × Int32) → List Nat → Bool
  | [], _ => true
  | q :: L, i :: P => zk_at TB i (Cond.constant own q.1 q.2) && zk_T TB own L P
  | _ :: _, [] => false
def zk_nest (own : String) (i : Nat) (y : MethodName) : Option Cond → Bool
  | some (.methodLinkNest o j z _) => decide (o = own) && Nat.beq j i && decide (z = y)
  | _ => false
/-- one link: its own word; for a method: instanceMethod or static; selects -/
def zk_L1 (TB : List Cond) (cl : List vw_C) (MT : List zM) (own : String) (q : Nat × Nat × Nat) (i : Nat × Nat × Nat) : Bool := match q.2.1 with
  | 9 => zk_at TB i.1 (Cond.methodLink own q.1 Lib.objectInit)
  | 8 => zk_at TB i.1 (Cond.methodLink own q.1 arraycopyName)
  | k => (match MT[q.2.2]? with
    | some mm => (match k with
      | 0 => zk_at TB i.1 (Cond.methodLink own q.1 mm.1) && zk_at TB i.2.1 (Cond.instanceMethod mm.1) && zk_at TB i.2.2 (Cond.selects mm.1.cls mm.1 mm.1) && (match cl[mm.2.2.2.2.2]? with
        | some r => decide (r.1 = mm.1.cls)
        | none => false)
      | 1 => zk_at TB i.1 (Cond.methodLink own q.1 mm.1) && zk_at TB i.2.1 (Cond.static mm.1)
      | 2 => zk_at TB i.1 (Cond.methodLink own q.1 mm.1) && zk_at TB i.2.1 (Cond.instanceMethod mm.1) && decide (mm.1.name = "<init>") && mm.2.2.2.1.isNone
      | 3 => zk_nest own q.1 mm.1 (TB[i.1]?) && zk_at TB i.2.1 (Cond.instanceMethod mm.1) && decide (mm.1.name = "<init>") && mm.2.2.2.1.isNone
      | 4 => zk_nest own q.1 mm.1 (TB[i.1]?) && zk_at TB i.2.1 (Cond.static mm.1)
      | _ => false)
    | none => false)
def zk_L (TB : List Cond) (cl : List vw_C) (MT : List zM) (own : String) : List (Nat × Nat × Nat) → List (Nat × Nat × Nat) → Bool
  | [], _ => true
  | q :: L, i :: P => zk_L1 TB cl MT own q i && zk_L TB cl MT own L P
  | _ :: _, [] => false
/-- a method: code, initialized -/
def zk_ok1 (TB : List Cond) (mm : zM) : Prop := Cond.code mm.1 mm.2.1 mm.2.2.1 mm.2.2.2.1 ∈ TB.filter z_gw ∧ Cond.initialized mm.1.cls ∈ TB.filter z_gw ∧ (mm.1.cls ≠ "java/lang/invoke/MethodHandle" ∧ mm.1.cls ≠ "java/lang/invoke/VarHandle") ∧ (parseMethodDescriptor mm.1.desc).map (fun d => d.parameters.length) = some mm.2.2.2.2.1
/-- a class: its fields' words, types, names -/
def zk_cl (TB : List Cond) (FT : Nat → Nat → FieldType) (ci : Nat) (r : vw_C) (P : List Nat) : Bool :=
  (List.range r.2.2).all (fun k => (match P[k]? with
    | some i => zk_at TB i (u_lay r.1 r.2.1 k)
    | none => false) && decide (parseFieldDescriptor (r.2.1 k).2.2.1 = some (FT ci k)) && decide ((r.2.1 k).1 = r.1)) &&
  (List.range r.2.2).all (fun a => (List.range r.2.2).all (fun b => Nat.ble a b || decide ((r.2.1 a).2.1 ≠ (r.2.1 b).2.1)))
def zk_cls (TB : List Cond) (FT : Nat → Nat → FieldType) : Nat → List vw_C → List (List Nat) → Bool
  | _, [], _ => true
  | ci, r :: L, p :: P => zk_cl TB FT ci r p && zk_cls TB FT (ci + 1) L P
  | _, _ :: _, [] => false
section ZWORDS
variable {TB Ts : List Cond} {cl : List vw_C} {FT : Nat → Nat → FieldType} {MT : List zM} {own : String}
theorem zk_F_ok : ∀ {L : List (Nat × Nat × Nat)} {P : List Nat}, zk_F TB cl own L P = true → ∀ q ∈ L, ∃ r, cl[q.2.1]? = some r ∧ q.2.2 < r.2.2 ∧ Cond.fieldLink own q.1 (r.2.1 q.2.2).1 (r.2.1 q.2.2).2.1 (r.2.1 q.2.2).2.2.1 ∈ TB.filter z_gw
  | [], _, _, q, hq => absurd hq List.not_mem_nil
  | x :: L, [], h, q, hq => by cases h
  | x :: L, i :: P, h, q, hq => by
    unfold zk_F at h
    rw [Bool.and_eq_true] at h
    rcases List.mem_cons.mp hq with rfl | hq
    · have h1 := h.1
      split at h1
      · rename_i r hr
        rw [Bool.and_eq_true] at h1
        exact ⟨r, hr, z_blt h1.1, zk_at_ok h1.2⟩
      · cases h1
    · exact zk_F_ok h.2 q hq
theorem zk_C_ok : ∀ {L : List (Nat × Nat)} {P : List (Nat × Nat × Nat)}, zk_C TB cl own L P = true → ∀ q ∈ L, ∃ r, cl[q.2]? = some r ∧ Cond.classLink own q.1 r.1 ∈ TB.filter z_gw ∧ Cond.instantiable r.1 r.2.2 ∈ TB.filter z_gw ∧ Cond.initialized r.1 ∈ TB.filter z_gw
  | [], _, _, q, hq => absurd hq List.not_mem_nil
  | x :: L, [], h, q, hq => by cases h
  | x :: L, i :: P, h, q, hq => by
    unfold zk_C at h
    rw [Bool.and_eq_true] at h
    rcases List.mem_cons.mp hq with rfl | hq
    · have h1 := h.1
      split at h1
      · rename_i r hr
        simp only [Bool.and_eq_true] at h1
        exact ⟨r, hr, zk_at_ok h1.1.1, zk_at_ok h1.1.2, zk_at_ok h1.2⟩
      · cases h1
    · exact zk_C_ok h.2 q hq
theorem zk_T_ok : ∀ {L : List (Nat × Int32)} {P : List Nat}, zk_T TB own L P = true → ∀ q ∈ L, Cond.constant own q.1 q.2 ∈ TB.filter z_gw
  | [], _, _, q, hq => absurd hq List.not_mem_nil
  | x :: L, [], h, q, hq => by cases h
  | x :: L, i :: P, h, q, hq => by
    unfold zk_T at h
    rw [Bool.and_eq_true] at h
    rcases List.mem_cons.mp hq with rfl | hq
    · exact zk_at_ok h.1
    · exact zk_T_ok h.2 q hq
theorem zk_nest_ok {i : Nat} {y : MethodName} {o : Option Cond} (h : zk_nest own i y o = true) : ∃ host, o = some (Cond.methodLinkNest own i y host) := by
  unfold zk_nest at h
  split at h
  · rename_i o2 j z host
    simp only [Bool.and_eq_true] at h
    have h1 := of_decide_eq_true h.1.1
    have h2 := z_beq h.1.2
    have h3 := of_decide_eq_true h.2
    subst h1; subst h2; subst h3
    exact ⟨host, rfl⟩
  · cases h
theorem zk_L1_ok {q i : Nat × Nat × Nat} (hT : ∀ w ∈ TB.filter z_gw, w ∈ Ts) (hM : ∀ mm ∈ MT, zk_ok1 TB mm)
    (h9 : Cond.instanceMethod Lib.objectInit ∈ TB.filter z_gw ∧ Cond.code Lib.objectInit ⟨#[0xb1]⟩ 1 none ∈ TB.filter z_gw) (h8 : Cond.native arraycopyName ∈ TB.filter z_gw ∧ Cond.static arraycopyName ∈ TB.filter z_gw ∧ Cond.initialized "java/lang/System" ∈ TB.filter z_gw) (h : zk_L1 TB cl MT own q i = true) :
    (q.2.1 = 9 → Cond.methodLink own q.1 Lib.objectInit ∈ Ts ∧ Cond.instanceMethod Lib.objectInit ∈ Ts ∧ Cond.code Lib.objectInit ⟨#[0xb1]⟩ 1 none ∈ Ts) ∧ (q.2.1 = 8 → Cond.methodLink own q.1 arraycopyName ∈ Ts ∧ Cond.native arraycopyName ∈ Ts ∧ Cond.static arraycopyName ∈ Ts ∧ Cond.initialized "java/lang/System" ∈ Ts) ∧ (q.2.1 ≤ 4 → ∃ mm, MT[q.2.2]? = some mm ∧ z_lk Ts own q.2.1 q.1 mm.1 mm.2.1 mm.2.2.1 mm.2.2.2.1 mm.2.2.2.2.1 ∧ (q.2.1 = 0 → ∃ r, cl[mm.2.2.2.2.2]? = some r ∧ r.1 = mm.1.cls)) := by
  obtain ⟨a, k, j⟩ := q
  have key : ∀ k2 : Nat, k2 = k → k2 ≤ 4 → ∃ mm, MT[j]? = some mm ∧ z_lk Ts own k2 a mm.1 mm.2.1 mm.2.2.1 mm.2.2.2.1 mm.2.2.2.2.1 ∧ (k2 = 0 → ∃ r, cl[mm.2.2.2.2.2]? = some r ∧ r.1 = mm.1.cls) := by
    intro k2 hk hk3
    subst hk
    unfold zk_L1 at h
    have hne9 : k2 ≠ 9 := by omega
    have hne8 : k2 ≠ 8 := by omega
    split at h
    · rename_i h9; exact absurd h9 hne9
    · rename_i h8; exact absurd h8 hne8
    · split at h
      · rename_i mm hmm
        have hmm : MT[j]? = some mm := hmm
        obtain ⟨m1, m2, m3, m4⟩ := hM mm (List.mem_of_getElem? hmm)
        refine ⟨mm, hmm, ?_, ?_⟩
        · refine ⟨hT _ m1, hT _ m2, m3, m4, ?_⟩
          match k2, hk3, h with
          | 0, _, h =>
            simp only [Bool.and_eq_true] at h
            exact ⟨hT _ (zk_at_ok h.1.1.1), hT _ (zk_at_ok h.1.1.2), hT _ (zk_at_ok h.1.2)⟩
          | 1, _, h =>
            simp only [Bool.and_eq_true] at h
            exact ⟨hT _ (zk_at_ok h.1), hT _ (zk_at_ok h.2)⟩
          | 2, _, h =>
            simp only [Bool.and_eq_true] at h
            exact ⟨hT _ (zk_at_ok h.1.1.1), hT _ (zk_at_ok h.1.1.2), of_decide_eq_true h.1.2, Option.isNone_iff_eq_none.mp h.2⟩
          | 3, _, h =>
            simp only [Bool.and_eq_true] at h
            obtain ⟨host, hh⟩ := zk_nest_ok h.1.1.1
            exact ⟨⟨host, hT _ (List.mem_filter.mpr ⟨List.mem_of_getElem? hh, rfl⟩)⟩, hT _ (zk_at_ok h.1.1.2), of_decide_eq_true h.1.2, Option.isNone_iff_eq_none.mp h.2⟩
          | 4, _, h =>
            simp only [Bool.and_eq_true] at h
            obtain ⟨host, hh⟩ := zk_nest_ok h.1
            exact ⟨⟨host, hT _ (List.mem_filter.mpr ⟨List.mem_of_getElem? hh, rfl⟩)⟩, hT _ (zk_at_ok h.2)⟩
        · intro h0
          subst h0
          have h : (zk_at TB i.1 (Cond.methodLink own a mm.1) && zk_at TB i.2.1 (Cond.instanceMethod mm.1) && zk_at TB i.2.2 (Cond.selects mm.1.cls mm.1 mm.1) && (match cl[mm.2.2.2.2.2]? with
            | some r => decide (r.1 = mm.1.cls)
            | none => false)) = true := h
          rw [Bool.and_eq_true] at h
          have h2 := h.2
          split at h2
          · rename_i r hr
            exact ⟨r, hr, of_decide_eq_true h2⟩
          · cases h2
      · cases h
  refine ⟨fun e => ?_, fun e => ?_, fun e => key k rfl e⟩
  · have e : k = 9 := e
    subst e
    exact ⟨hT _ (zk_at_ok h), hT _ h9.1, hT _ h9.2⟩
  · have e : k = 8 := e
    subst e
    exact ⟨hT _ (zk_at_ok h), hT _ h8.1, hT _ h8.2.1, hT _ h8.2.2⟩
theorem zk_L_ok {P2 : Nat × Nat × Nat → Prop} (hp : ∀ q i, zk_L1 TB cl MT own q i = true → P2 q) : ∀ {L P : List (Nat × Nat × Nat)}, zk_L TB cl MT own L P = true → ∀ q ∈ L, P2 q
  | [], _, _, q, hq => absurd hq List.not_mem_nil
  | x :: L, [], h, q, hq => by cases h
  | x :: L, i :: P, h, q, hq => by
    unfold zk_L at h
    rw [Bool.and_eq_true] at h
    rcases List.mem_cons.mp hq with rfl | hq
    · exact hp _ _ h.1
    · exact zk_L_ok hp h.2 q hq
theorem zk_cls_ok : ∀ {L : List vw_C} {ci : Nat} {P : List (List Nat)}, zk_cls TB FT ci L P = true → ∀ k r, L[k]? = some r → ∃ p, zk_cl TB FT (ci + k) r p = true
  | [], _, _, _, k, r, h => by simp at h
  | x :: L, ci, [], h, k, r, hk => by cases h
  | x :: L, ci, p :: P, h, k, r, hk => by
    unfold zk_cls at h
    rw [Bool.and_eq_true] at h
    cases k with
    | zero =>
      have : x = r := by simpa using hk
      subst this
      exact ⟨p, h.1⟩
    | succ k =>
      obtain ⟨p2, h2⟩ := zk_cls_ok h.2 k r (by simpa using hk)
      exact ⟨p2, by rw [show ci + (k + 1) = ci + 1 + k by omega]; exact h2⟩
theorem zk_ks {PC : List (List Nat)} (hc : zk_cls TB FT 0 cl PC = true) (hm : ∀ mm ∈ MT, zk_ok1 TB mm) (h9 : Cond.instanceMethod Lib.objectInit ∈ TB.filter z_gw ∧ Cond.code Lib.objectInit ⟨#[0xb1]⟩ 1 none ∈ TB.filter z_gw) (h8 : Cond.native arraycopyName ∈ TB.filter z_gw ∧ Cond.static arraycopyName ∈ TB.filter z_gw ∧ Cond.initialized "java/lang/System" ∈ TB.filter z_gw) (ha : ∀ k, k < 3 → Cond.arrayClass (z_ek k) ∈ TB.filter z_gw)
    {KF KL : List (Nat × Nat × Nat)} {KC : List (Nat × Nat)} {KT : List (Nat × Int32)} {pF pT : List Nat} {pC pL : List (Nat × Nat × Nat)} (hF : zk_F TB cl own KF pF = true) (hC : zk_C TB cl own KC pC = true) (hL : zk_L TB cl MT own KL pL = true) (hT : zk_T TB own KT pT = true)
    (Ts : List Cond) (hTs : ∀ w ∈ TB.filter z_gw, w ∈ Ts) (CA NA : List (Nat × Nat)) (AC : List (Nat × Nat × Nat × Int)) (IN : Option Nat) (hin : ∀ j r, IN = some j → cl[j]? = some r → r.1 = own) : z_KS Ts (TB.filter z_gw) cl FT own MT (KF, KC, KL, KT, CA, NA, AC, IN) := by
  refine ⟨⟨fun ci r hr => ?_, fun q hq => ?_⟩, fun q hq => ?_, zk_L_ok (P2 := fun q => (q.2.1 = 9 → _) ∧ (q.2.1 = 8 → _) ∧ (q.2.1 ≤ 4 → _)) (fun q i h => zk_L1_ok hTs hm h9 h8 h) hL, fun q hq => hTs _ (zk_T_ok hT q hq), fun k hk => hTs _ (ha k hk), fun w hw => ⟨hTs _ hw, (List.mem_filter.mp hw).2⟩, fun j r h1 h2 => hin j r h1 h2⟩
  · obtain ⟨p, hp⟩ := zk_cls_ok hc ci r hr
    rw [Nat.zero_add] at hp
    unfold zk_cl at hp
    rw [Bool.and_eq_true] at hp
    obtain ⟨p1, p2⟩ := hp
    have one : ∀ k, k < r.2.2 → u_lay r.1 r.2.1 k ∈ TB.filter z_gw ∧ parseFieldDescriptor (r.2.1 k).2.2.1 = some (FT ci k) ∧ (r.2.1 k).1 = r.1 := by
      intro k hk
      have h := List.all_eq_true.mp p1 k (List.mem_range.mpr hk)
      simp only [Bool.and_eq_true] at h
      refine ⟨?_, of_decide_eq_true h.1.2, of_decide_eq_true h.2⟩
      have h1 := h.1.1
      split at h1
      · exact zk_at_ok h1
      · cases h1
    have lt : ∀ a b, b < a → a < r.2.2 → (r.2.1 a).2.1 ≠ (r.2.1 b).2.1 := by
      intro a b hab ha2
      have h := List.all_eq_true.mp (List.all_eq_true.mp p2 a (List.mem_range.mpr ha2)) b (List.mem_range.mpr (by omega))
      rw [Bool.or_eq_true] at h
      rcases h with h | h
      · have := Nat.le_of_ble_eq_true h
        omega
      · exact of_decide_eq_true h
    refine ⟨fun w hw => ?_, fun k hk => (one k hk).2.1, fun a ha2 b hb hab => ?_, fun k hk => (one k hk).2.2⟩
    · obtain ⟨k, hk, rfl⟩ := List.mem_map.mp hw
      exact hTs _ (one k (List.mem_range.mp hk)).1
    · rcases Nat.lt_or_ge b a with h | h
      · exact lt a b h ha2
      · exact fun e => lt b a (by omega) hb e.symm
  · obtain ⟨r, h1, h2, h3⟩ := zk_F_ok hF q hq
    exact ⟨r, h1, h2, hTs _ h3⟩
  · obtain ⟨r, h1, h2, h3, h4⟩ := zk_C_ok hC q hq
    exact ⟨r, h1, hTs _ h2, hTs _ h3, hTs _ h4⟩
/-- a contract of SG, by its method's place -/
theorem z_lnk {TBL : List Cond} {TY : List zTy} {PHI : List (List Nat)} {KXf : (Nat → Nat) → Nat → State → Heap → Prop} {i : Nat} {mm : zM} {g : zSig} (hm : MT[i]? = some mm) (h : z_OK TBL cl FT TY PHI KXf mm.1 mm.2.1 mm.2.2.1 mm.2.2.2.1 g) : ∀ m2, MT[(i, g).1]? = some m2 → z_OK TBL cl FT TY PHI KXf m2.1 m2.2.1 m2.2.2.1 m2.2.2.2.1 (i, g).2 := by
  intro m2 h2
  have h2 : MT[i]? = some m2 := h2
  rw [hm] at h2
  cases h2
  exact h
theorem z_fil {P2 : Nat × zSig → Prop} {SG : List (Nat × zSig)} (CA : List (Nat × Nat)) (h : ∀ g ∈ SG, P2 g) : ∀ g ∈ CA.filterMap (fun a => SG[a.2]?), P2 g := by
  intro g hg
  obtain ⟨a, _, ha⟩ := List.mem_filterMap.mp hg
  exact h g (List.mem_of_getElem? ha)
end ZWORDS
end
section
/-! A contract with its ends told as one: the answer alone. -/
def z_rle : Option zV → Option zV → Bool
  | none, none => true
  | some c, some d => z_le c d
  | _, _ => false
abbrev z_wk (g : zSig) (r : Option zV) : zSig := (g_prm g, g_raw g, g_loc g, [([], r, [], [])], g_pur g, g_mk g, g_rm g, g_ph g)
theorem z_weak {TBL : List Cond} {cl : List vw_C} {FT : Nat → Nat → FieldType} {TY : List zTy} {PHI : List (List Nat)} {KXf : (Nat → Nat) → Nat → State → Heap → Prop} {y : MethodName} {bytes : ByteArray} {maxL : Nat} {ret : Option FieldType} {g : zSig} {r : Option zV} (hr : (g_pst g).all (fun P => z_rle P.2.1 r) = true) (h : z_OK TBL cl FT TY PHI KXf y bytes maxL ret g) : z_OK TBL cl FT TY PHI KXf y bytes maxL ret (z_wk g r) := by
  intro l OB D DA sz T
  refine MetFree.mono (h l OB D DA sz T) (fun _ _ h => h) (fun _ _ _ _ _ h => h) (fun a s o s' _ hq => ⟨?_, hq.2⟩)
  obtain ⟨vals, v, T', a1, a2, a3, a4, a5, a6, a7, a8, a9, P, hP, c1, c2, c3, c4⟩ := hq.1
  refine ⟨vals, v, T', a1, a2, a3, a4, a5, a6, a7, a8, a9, ([], r, [], []), List.mem_singleton.mpr rfl, fun q hq => absurd hq List.not_mem_nil, ?_, fun q hq => absurd hq List.not_mem_nil, fun i q h _ hh => by cases hh⟩
  have h1 := List.all_eq_true.mp hr P hP
  cases hp : P.2.1 with
  | none =>
    rw [hp] at h1 c2
    cases r with
    | none => exact c2
    | some d => cases h1
  | some c =>
    rw [hp] at h1 c2
    cases r with
    | none => cases h1
    | some d =>
      cases v with
      | none => exact c2
      | some x => exact z_le_ok h1 c2
end
section
/-! The law's body over many calls: an induction over i; the state at the loop's head has the symbols script, L, i, x, m; behind them six ghosts: the ints of this call. -/
def zm_ex (R : List (Nat × Nat × Int)) (d e : Nat) : Option Int := match z_lbs R 6 d e, z_lbs R 6 e d with
  | some a, some b => cond (z_ile a (-b) && z_ile (-b) a) (some a) none
  | _, _ => none
def zm_rd (cc : ByteArray) : zHk := fun pc st => match decode cc pc with
  | .ok (.arraylength, 1) => (match z_S st with
    | d :: S => (match z_get (z_V st) d with
      | some (.inr (.inr 1)) => some [(pc + 1, z_stS st (1 :: S))]
      | _ => none)
    | _ => none)
  | .ok (.iaload, 1) => (match z_S st with
    | j :: d :: S => (match z_get (z_V st) d, zm_ex (z_R st) j 2, z_isi st j with
      | some (.inr (.inr 1)), some c, true => cond (z_ile 0 c && z_ile c 5 && (match z_lbs (z_R st) 6 1 j with
        | some k => z_ile 1 k
        | none => false)) (some [(pc + 1, z_stS st ((5 + c.toNat) :: S))]) none
      | _, _, _ => none)
    | _ => none)
  | _ => none
def zm_fit (hd : zS) (iv : zS → Nat → Bool) (cur : zS) : Bool := match z_loc (z_L cur) 0, z_loc (z_L cur) 1, z_loc (z_L cur) 2, z_loc (z_L cur) 3 with
  | some d0, some d1, some d2, some d3 => Nat.beq d0 0 && iv cur d3 && z_sub2 cur hd [0, 1, d3, d1, d2]
  | _, _, _, _ => false
/-- i is 6 more than symbol 2 -/
def zm_iv6 (cur : zS) (d : Nat) : Bool := z_isi cur d && (match zm_ex (z_R cur) d 2 with
  | some k => z_ile 6 k && z_ile k 6
  | none => false)
def zm_iv0 (cur : zS) (d : Nat) : Bool := match z_get (z_V cur) d with
  | some (.inl r) => z_ile 0 r.1 && z_ile r.2 0
  | _ => false
def zm_hk (cc : ByteArray) (hd : zS) (hpc : Nat) (iv : zS → Nat → Bool) : zHk := fun pc st => cond (Nat.beq pc hpc && zm_fit hd iv st) (some []) (zm_rd cc pc st)
/-- what the guards are -/
def zm_at (b L i : Nat) (xs : Nat → Int32) (env : List Value) : Prop := env[0]? = some (.ref b) ∧ env[1]? = some (.int (Int32.ofNat L)) ∧ env[2]? = some (.int (Int32.ofNat i)) ∧ ∀ c, c < 6 → env[5 + c]? = some (.int (xs (i + c)))
section ZLOOP
variable {p : Program} {l : Launch} {e : Env} {R : Room} {s : State} {m : MethodId} {args : Array Value} {below : List Frame} {meth : Method} {c : Code} {Q : State → Prop} {cc : ByteArray} {pc : Nat}
variable {OB : Nat → Nat} {D : va_G} {DA : Nat → ClassId} {cl : List vw_C} {FT : Nat → Nat → FieldType} {TY : List zTy} {PHI : List (List Nat)} {sz : Nat} {T0 : zTp} {env0 : List Value} {nL : Nat} {st : zS} {good : Nat → zS → Prop}
variable {b L i : Nat} {xs : Nat → Int32}
theorem zm_ex_ok {Rr : List (Nat × Nat × Int)} {env : List Value} (hr : z_fr env Rr) {d f : Nat} {k : Int} {vd ve : Int32} (h : zm_ex Rr d f = some k) (h1 : env[d]? = some (.int vd)) (h2 : env[f]? = some (.int ve)) : vd.toInt = ve.toInt + k := by
  unfold zm_ex at h
  split at h
  · rename_i a b' ha hb
    obtain ⟨hc, rfl⟩ := z_cond h
    rw [Bool.and_eq_true] at hc
    have c1 := z_ile_ok hc.1
    have c2 := z_ile_ok hc.2
    obtain ⟨v1, g1, g2⟩ := z_lbs_ok hr ha h1
    obtain ⟨v2, g3, g4⟩ := z_lbs_ok hr hb h2
    rw [h2] at g1
    cases g1
    rw [h1] at g3
    cases g3
    omega
  · cases h
theorem zm_rd_ok (hg : z_Good p l e R s m args below meth c Q OB D DA cl TY PHI sz none false T0 s.heap env0 nL good) (hx : p.tables.exec = Jvm.exec) (hb : c.code = cc) (hX : va_X b L xs s s.heap) (hbl : b < s.heap.size) (hsz : sz = s.heap.size) (hL : L < 2147483648) (hi : i < 2147483648) (hOB : OB 0 = b) (he : zm_at b L i xs env0)
    {Ls : List (Nat × zS)} (h : zm_rd cc pc st = some Ls) (hall : ∀ q ∈ Ls, good q.1 q.2) : good pc st := by
  have hbA : ¬ sz ≤ b := by omega
  have h0 : ∀ {env : List Value} {k : Nat} {v : Value}, (∃ w, env = env0 ++ w) → env0[k]? = some v → env[k]? = some v := by
    intro env k v hw hv
    obtain ⟨w, rfl⟩ := hw
    exact z_app hv
  unfold zm_rd at h
  split at h
  · rename_i hd
    split at h
    · rename_i d S hS
      split at h
      · rename_i hV
        cases h
        have k0 : good (pc + 1) (z_stS st (1 :: S)) := hall _ (List.mem_singleton.mpr rfl)
        refine (hg _ _).mpr fun T H locs env ls stk hs => ?_
        obtain ⟨v, kk, rfl, e1, hk⟩ := z_stk_cons hS hs.2.2.2.1
        obtain ⟨v2, e2, e3⟩ := z_get_ok hs.2.2.2.2.1 hV
        rw [e1] at e2
        cases e2
        have e3 : v = .ref (OB 0) := e3
        rw [hOB] at e3
        subst e3
        have hmem := hs.2.2.2.2.2.2.2.2.2
        refine va_slen hx hb hX hbl hbA hmem.2.2.2.2 hd ?_
        exact (hg _ _).mp k0 T H locs env ls _ (z_sat_stS hs ⟨_, kk, rfl, h0 hs.2.1 he.2.1, hk⟩)
      · cases h
    · cases h
  · rename_i hd
    split at h
    · rename_i j d S hS
      split at h
      · rename_i k hV hE hI
        cases hc : (z_ile 0 k && z_ile k 5 && (match z_lbs (z_R st) 6 1 j with
          | some k => z_ile 1 k
          | none => false)) with
        | false => rw [hc] at h; cases h
        | true =>
          rw [hc] at h
          cases h
          simp only [Bool.and_eq_true] at hc
          obtain ⟨⟨c1, c2⟩, c4⟩ := hc
          have c1 := z_ile_ok c1
          have c2 := z_ile_ok c2
          have k0 : good (pc + 1) (z_stS st ((5 + k.toNat) :: S)) := hall _ (List.mem_singleton.mpr rfl)
          refine (hg _ _).mpr fun T H locs env ls stk hs => ?_
          obtain ⟨vj, kk, rfl, e1, hk⟩ := z_stk_cons hS hs.2.2.2.1
          obtain ⟨vd, kk2, rfl, f1, hk2⟩ := hk
          obtain ⟨y, e2⟩ := z_isi_ok hI hs
          rw [e1] at e2
          cases e2
          obtain ⟨v3, f2, f3⟩ := z_get_ok hs.2.2.2.2.1 hV
          rw [f1] at f2
          cases f2
          have f3 : vd = .ref (OB 0) := f3
          rw [hOB] at f3
          subst f3
          have hmem := hs.2.2.2.2.2.2.2.2.2
          have hLv : env[1]? = some (.int (Int32.ofNat L)) := h0 hs.2.1 he.2.1
          have hiv : env[2]? = some (.int (Int32.ofNat i)) := h0 hs.2.1 he.2.2.1
          have hLi : (Int32.ofNat L).toInt = (L : Int) := Int32.toInt_ofNat_of_lt (by omega)
          have hii : (Int32.ofNat i).toInt = (i : Int) := Int32.toInt_ofNat_of_lt (by omega)
          have hy := zm_ex_ok hs.2.2.2.2.2.2.2.1 hE e1 hiv
          split at c4
          · rename_i k4 hk4
            have c4 := z_ile_ok c4
            obtain ⟨vx, g1, g2⟩ := z_lbs_ok hs.2.2.2.2.2.2.2.1 hk4 hLv
            rw [e1] at g1
            cases g1
            have hcl : y.toNatClampNeg = i + k.toNat := by show y.toInt.toNat = _; omega
            have hin : vp_in y L := by
              intro hh
              rcases hh with hh | hh
              · have := Int32.lt_iff_toInt_lt.mp hh
                have e0 : (0 : Int32).toInt = 0 := rfl
                omega
              · rw [hcl] at hh
                omega
            refine va_sld hx hb hX hbl hbA hmem.2.2.2.2 hin hd ?_
            rw [hcl]
            exact (hg _ _).mp k0 T H locs env ls _ (z_sat_stS hs ⟨_, kk2, rfl, h0 hs.2.1 (he.2.2.2 k.toNat (by omega)), hk2⟩)
          · cases c4
      · cases h
    · cases h
  · cases h
/-- the head is reached again -/
theorem zm_fit_ok {hd : zS} {hpc i' : Nat} {iv : zS → Nat → Bool} (hn : z_n hd = 5) (hg : z_Good p l e R s m args below meth c Q OB D DA cl TY PHI sz none false T0 s.heap env0 nL good) (hb0 : env0[0]? = some (.ref b)) (hb1 : env0[1]? = some (.int (Int32.ofNat L)))
    (hiv : ∀ T H locs env ls stk d, z_sat OB D DA cl TY PHI sz none false T0 s.heap env0 nL st T H locs env ls stk → iv st d = true → env[d]? = some (.int (Int32.ofNat i')))
    (hIH : ∀ T H locs env ls stk, env[0]? = some (.ref b) → env[1]? = some (.int (Int32.ofNat L)) → env[2]? = some (.int (Int32.ofNat i')) → z_sat OB D DA cl TY PHI sz none false T0 s.heap env nL hd T H locs env ls stk → W p l e R s m args below meth c H locs (z_C hd).1 (z_C hd).2 Q (F0 m hpc ls stk))
    (h : zm_fit hd iv st = true) : good hpc st := by
  refine (hg _ _).mpr fun T H locs env ls stk hs => ?_
  unfold zm_fit at h
  split at h
  · rename_i d0 d1 d2 d3 h0 h1 h2 h3
    simp only [Bool.and_eq_true] at h
    obtain ⟨⟨-, hi3⟩, hsub⟩ := h
    obtain ⟨c1, c2, env3, c3, c4⟩ := z_sub2_ok hsub hs
    obtain ⟨w, hw⟩ := hs.2.1
    have hh : ∀ {k : Nat} {v : Value}, env0[k]? = some v → env[k]? = some v := fun hv => by rw [hw]; exact z_app hv
    refine W.widen c1 c2 (hIH T H locs env3 ls stk ?_ ?_ ?_ c4)
    · rw [c3 0 0 rfl]; exact hh hb0
    · rw [c3 1 1 rfl]; exact hh hb1
    · rw [c3 2 d3 rfl]; exact hiv T H locs env ls stk d3 hs hi3
  · cases h
end ZLOOP
end
section
/-! The loop's induction, and the start. -/
def zl_fin (mc ms : Nat) (st : zS) : Bool := (match z_S st with
  | [r] => (match z_get (z_V st) r with
    | some (.inl a) => z_ile 1 a.1 && z_ile a.2 1
    | _ => false)
  | _ => false) && Nat.ble (z_C st).1 mc && Nat.ble (z_C st).2 ms
def zm_hB (hd : zS) : zS := (z_L hd, z_S hd, 11, [(5, .inl z_full), (6, .inl z_full), (7, .inl z_full), (8, .inl z_full), (9, .inl z_full), (10, .inl z_full)] ++ z_V hd, z_F hd, z_E hd, z_R hd, z_X hd, z_C hd, z_ph hd)
def zm_stp (TY : List zTy) (PHI : List (List Nat)) (cl : List vw_C) (FT : Nat → Nat → FieldType) (MT : List zM) (SG : List (Nat × zSig)) (PHS : List Nat) (R : Room) (nL mc ms : Nat) (cc : ByteArray) (K : zK) (hk : zHk) : Nat → zS → Option (List (Nat × zS)) := z_hst hk (z_stp TY PHI cl FT MT SG [] PHS R false nL K cc (fun _ => false) (zl_fin mc ms))
def zm_hs (hd : zS) (hpc : Nat) : zHk := fun pc st => cond (Nat.beq pc hpc && zm_fit hd zm_iv0 st) (some []) none
def zm_chk0 (TY : List zTy) (PHI : List (List Nat)) (cl : List vw_C) (FT : Nat → Nat → FieldType) (MT : List zM) (SG : List (Nat × zSig)) (PHS : List Nat) (R : Room) (nL mc ms : Nat) (cc : ByteArray) (ce : zCe) (hd : zS) (hpc : Nat) : Bool := z_run (zm_stp TY PHI cl FT MT SG PHS R nL mc ms cc ce.1 (zm_hk cc hd hpc zm_iv6)) (z_cut ce.2.1 11 none) ce.2.2 hpc (zm_hB hd)
def zm_chkP (TY : List zTy) (PHI : List (List Nat)) (cl : List vw_C) (FT : Nat → Nat → FieldType) (MT : List zM) (SG : List (Nat × zSig)) (PHS : List Nat) (R : Room) (nL mc ms : Nat) (cc : ByteArray) (ce : zCe) (hd : zS) (hpc : Nat) (P : List zCu) : Bool := P.all (fun k => k.2.2.2.2.all (fun q => Nat.blt q.1 (z_n k.2.1)) && z_run (zm_stp TY PHI cl FT MT SG PHS R nL mc ms cc ce.1 (zm_hk cc hd hpc zm_iv6)) (z_cut ce.2.1 11 (some k.2.2.2)) ce.2.2 k.1 k.2.1)
def zm_st0 (N : Int) : zS := ([(0, 0)], [], 2, [(0, .inr (.inr 1)), (1, .inl (0, N))], [], [], [], [], (0, 0), 0)
def zm_chkS (TY : List zTy) (PHI : List (List Nat)) (cl : List vw_C) (FT : Nat → Nat → FieldType) (MT : List zM) (SG : List (Nat × zSig)) (PHS : List Nat) (R : Room) (nL mc ms : Nat) (cc : ByteArray) (ce : zCe) (hd : zS) (hpc : Nat) (N : Int) : Bool := z_run (zm_stp TY PHI cl FT MT SG PHS R nL mc ms cc ce.1 (zm_hs hd hpc)) (z_cut [] 2 none) ce.2.2 0 (zm_st0 N)
section ZLOOP2
variable {p : Program} {l : Launch} {e : Env} {R : Room} {s : State} {m : MethodId} {args : Array Value} {below : List Frame} {meth : Method} {c : Code} {Q : State → Prop} {cc : ByteArray} {pc : Nat}
variable {OB : Nat → Nat} {D : va_G} {DA : Nat → ClassId} {cl : List vw_C} {FT : Nat → Nat → FieldType} {TY : List zTy} {PHI : List (List Nat)} {sz : Nat} {T0 : zTp} {env0 : List Value} {nL : Nat} {st : zS} {KXf : (Nat → Nat) → Nat → State → Heap → Prop} {good : Nat → zS → Prop}
variable {TBL : List Cond} {own : String} {MT : List zM} {SG : List (Nat × zSig)} {PHS : List Nat} {ce : zCe} {mc ms : Nat} {b L N : Nat} {xs : Nat → Int32} {hd : zS} {hpc : Nat}
theorem zm_chkP_app {A B : List zCu} (h1 : zm_chkP TY PHI cl FT MT SG PHS R nL mc ms cc ce hd hpc A = true) (h2 : zm_chkP TY PHI cl FT MT SG PHS R nL mc ms cc ce hd hpc B = true) : zm_chkP TY PHI cl FT MT SG PHS R nL mc ms cc ce hd hpc (A ++ B) = true := by
  show (A ++ B).all _ = true
  rw [List.all_append, Bool.and_eq_true]
  exact ⟨h1, h2⟩
theorem zl_fin_ok (hg : z_Good p l e R s m args below meth c Q OB D DA cl TY PHI sz none false T0 s.heap env0 nL good) (hsz : sz = s.heap.size) (hend : ∀ pc H ls, decode cc pc = .ok (.ireturn, 1) → W p l e R s m args below meth c H [] mc ms Q (F0 m pc ls [.int 1])) (hd : decode cc pc = .ok (.ireturn, 1)) (h : zl_fin mc ms st = true) : good pc st := by
  refine (hg _ _).mpr fun T H locs env ls stk hs => ?_
  unfold zl_fin at h
  simp only [Bool.and_eq_true] at h
  obtain ⟨⟨h1, h2⟩, h3⟩ := h
  split at h1
  · rename_i r hS
    split at h1
    · rename_i a ha
      rw [Bool.and_eq_true] at h1
      have a1 := z_ile_ok h1.1
      have a2 := z_ile_ok h1.2
      obtain ⟨v, k, rfl, e1, hk⟩ := z_stk_cons hS hs.2.2.2.1
      have hk : k = [] := hk
      subst hk
      obtain ⟨v2, e2, x, rfl, hx⟩ := z_get_ok hs.2.2.2.2.1 ha
      rw [e1] at e2
      cases e2
      have hx1 : x = 1 := Int32.toInt.inj (by have := hx.1; have := hx.2; have e0 : (1 : Int32).toInt = 1 := rfl; omega)
      subst hx1
      have hmem := hs.2.2.2.2.2.2.2.2.2
      have := W.forget (locs := []) (L := locs) (fun q hq => by have := hmem.2.2.2.2.2.2 q hq; omega) (hend pc H ls hd)
      exact W.widen (Nat.le_of_ble_eq_true h2) (Nat.le_of_ble_eq_true h3) this
    · cases h1
  · cases h1
theorem zm_iv6_ok {i : Nat} (hi : i < 2147483000) (hs : ∀ T H locs env ls stk, z_sat OB D DA cl TY PHI sz none false T0 s.heap env0 nL st T H locs env ls stk → env[2]? = some (.int (Int32.ofNat i))) : ∀ T H locs env ls stk d, z_sat OB D DA cl TY PHI sz none false T0 s.heap env0 nL st T H locs env ls stk → zm_iv6 st d = true → env[d]? = some (.int (Int32.ofNat (i + 6))) := by
  intro T H locs env ls stk d h hv
  unfold zm_iv6 at hv
  rw [Bool.and_eq_true] at hv
  obtain ⟨h1, h2⟩ := hv
  obtain ⟨x, hx⟩ := z_isi_ok h1 h
  split at h2
  · rename_i k hk
    rw [Bool.and_eq_true] at h2
    have k1 := z_ile_ok h2.1
    have k2 := z_ile_ok h2.2
    have := zm_ex_ok h.2.2.2.2.2.2.2.1 hk hx (hs T H locs env ls stk h)
    have e1 : (Int32.ofNat i).toInt = (i : Int) := Int32.toInt_ofNat_of_lt (by omega)
    have e2 : (Int32.ofNat (i + 6)).toInt = ((i + 6 : Nat) : Int) := Int32.toInt_ofNat_of_lt (by omega)
    rw [hx]
    have : x = Int32.ofNat (i + 6) := Int32.toInt_inj.mp (by rw [e2]; omega)
    rw [this]
  · cases h2
/-- one call after the other -/
theorem zm_loop (hx : p.tables.exec = Jvm.exec) (hb : c.code = cc) (hml : c.maxLocals = nL) (hX : va_X b L xs s s.heap) (hbl : b < s.heap.size) (hN : N ≤ 100000) (hL : L ≤ N) (hOB : OB 0 = b) (hD : z_Dy s m args TBL own D cl DA (z_tys DA)) (hXp : z_KXp s.heap.size (KXf OB s.heap.size)) (hKX : KXf OB s.heap.size s s.heap) (hKS : z_KS TBL TBL cl FT own MT ce.1) (hin : k_IN ce.1 = none) (hPH : ∀ a ∈ PHS, z_phok TY PHI a = true)
    (hok : ∀ g ∈ (k_CA ce.1).filterMap (fun a => SG[a.2]?), ∀ m2, MT[g.1]? = some m2 → z_OK TBL cl FT TY PHI KXf m2.1 m2.2.1 m2.2.2.1 m2.2.2.2.1 g.2) (hend : ∀ pc H ls, decode cc pc = .ok (.ireturn, 1) → W p l e R s m args below meth c H [] mc ms Q (F0 m pc ls [.int 1]))
    (hn : z_n hd = 5) (hV : (2, Sum.inl ((0 : Int), (N : Int))) ∈ z_V hd) (h0 : zm_chk0 TY PHI cl FT MT SG PHS R nL mc ms cc ce hd hpc = true) (hP : zm_chkP TY PHI cl FT MT SG PHS R nL mc ms cc ce hd hpc ce.2.1 = true) :
    ∀ k i, i < 2147482000 → N + 1 - i ≤ k → ∀ T H locs env ls stk, env[0]? = some (.ref b) → env[1]? = some (.int (Int32.ofNat L)) → env[2]? = some (.int (Int32.ofNat i)) → z_sat OB D DA cl TY PHI s.heap.size none false (fun _ => none) s.heap env nL hd T H locs env ls stk → W p l e R s m args below meth c H locs (z_C hd).1 (z_C hd).2 Q (F0 m hpc ls stk) := by
  intro k
  induction k with
  | zero =>
    intro i hi hk T H locs env ls stk e0 e1 e2 hs
    obtain ⟨v, g1, x, rfl, g2⟩ := hs.2.2.2.2.1 _ hV
    have g1 : env[2]? = some (.int x) := g1
    rw [e2] at g1
    cases g1
    have ei : (Int32.ofNat i).toInt = (i : Int) := Int32.toInt_ofNat_of_lt (by omega)
    have := g2.2
    rw [ei] at this
    have : (i : Int) ≤ (N : Int) := this
    omega
  | succ k ih =>
    intro i hi hk T H locs env ls stk e0 e1 e2 hs
    obtain ⟨v, g1, x, rfl, g2⟩ := hs.2.2.2.2.1 _ hV
    have g1 : env[2]? = some (.int x) := g1
    rw [e2] at g1
    cases g1
    have ei : (Int32.ofNat i).toInt = (i : Int) := Int32.toInt_ofNat_of_lt (by omega)
    have hiN : (i : Int) ≤ (N : Int) := by have := g2.2; rw [ei] at this; exact this
    have hlen : env.length = 5 := hs.1.trans hn
    have gv : ∀ j, j < 6 → (env ++ [Value.int (xs i), .int (xs (i + 1)), .int (xs (i + 2)), .int (xs (i + 3)), .int (xs (i + 4)), .int (xs (i + 5))])[5 + j]? = some (.int (xs (i + j))) := by
      intro j hj
      rw [List.getElem?_append_right (by omega), hlen, Nat.add_sub_cancel_left]
      match j, hj with
      | 0, _ => rfl
      | 1, _ => rfl
      | 2, _ => rfl
      | 3, _ => rfl
      | 4, _ => rfl
      | 5, _ => rfl
    have full : ∀ x : Int32, z_v OB T (.inl z_full) (.int x) := fun x => ⟨x, rfl, z_in_full x⟩
    have hs2 : z_sat OB D DA cl TY PHI s.heap.size none false (fun _ => none) s.heap (env ++ [Value.int (xs i), .int (xs (i + 1)), .int (xs (i + 2)), .int (xs (i + 3)), .int (xs (i + 4)), .int (xs (i + 5))]) nL (zm_hB hd) T H locs (env ++ [Value.int (xs i), .int (xs (i + 1)), .int (xs (i + 2)), .int (xs (i + 3)), .int (xs (i + 4)), .int (xs (i + 5))]) ls stk := by
      refine ⟨by rw [List.length_append, hlen]; rfl, ⟨[], by rw [List.append_nil]⟩, z_ls_app hs.2.2.1, z_stk_app hs.2.2.2.1, fun q hq => ?_, z_ff_app hs.2.2.2.2.2.1, z_fe_app hs.2.2.2.2.2.2.1, z_fr_app hs.2.2.2.2.2.2.2.1, z_fx_app hs.2.2.2.2.2.2.2.2.1, hs.2.2.2.2.2.2.2.2.2⟩
      rcases List.mem_append.mp hq with hq | hq
      · rcases List.mem_cons.mp hq with rfl | hq
        · exact ⟨_, gv 0 (by omega), full _⟩
        rcases List.mem_cons.mp hq with rfl | hq
        · exact ⟨_, gv 1 (by omega), full _⟩
        rcases List.mem_cons.mp hq with rfl | hq
        · exact ⟨_, gv 2 (by omega), full _⟩
        rcases List.mem_cons.mp hq with rfl | hq
        · exact ⟨_, gv 3 (by omega), full _⟩
        rcases List.mem_cons.mp hq with rfl | hq
        · exact ⟨_, gv 4 (by omega), full _⟩
        rcases List.mem_cons.mp hq with rfl | hq
        · exact ⟨_, gv 5 (by omega), full _⟩
        cases hq
      · exact z_fv_app hs.2.2.2.2.1 q hq
    have hat : zm_at b L i xs (env ++ [Value.int (xs i), .int (xs (i + 1)), .int (xs (i + 2)), .int (xs (i + 3)), .int (xs (i + 4)), .int (xs (i + 5))]) := ⟨z_app e0, z_app e1, z_app e2, gv⟩
    refine z_runs (ng := 11) (ends := zm_at b L i xs) (fun env1 env2 he hgh => ?_) (fun env1 pc st Ls he hL2 hall => ?_) hP h0 hat (by rw [List.length_append, hlen]; exact Nat.le_refl _) hs2
    · exact ⟨(hgh 0 (by omega)).trans he.1, (hgh 1 (by omega)).trans he.2.1, (hgh 2 (by omega)).trans he.2.2.1, fun j hj => (hgh (5 + j) (by omega)).trans (he.2.2.2 j hj)⟩
    · have hgg : z_Good p l e R s m args below meth c Q OB D DA cl TY PHI s.heap.size none false (fun _ => none) s.heap env1 nL (fun pc st => ∀ T2 H2 locs2 env2 ls2 stk2, z_sat OB D DA cl TY PHI s.heap.size none false (fun _ => none) s.heap env1 nL st T2 H2 locs2 env2 ls2 stk2 → W p l e R s m args below meth c H2 locs2 (z_C st).1 (z_C st).2 Q (F0 m pc ls2 stk2)) := fun _ _ => Iff.rfl
      unfold zm_stp z_hst at hL2
      split at hL2
      · rename_i L3 hL3
        cases hL2
        unfold zm_hk at hL3
        cases hc : (Nat.beq pc hpc && zm_fit hd zm_iv6 st) with
        | true =>
          rw [Bool.and_eq_true] at hc
          have hpc2 := z_beq hc.1
          subst hpc2
          exact zm_fit_ok (i' := i + 6) hn hgg he.1 he.2.1 (zm_iv6_ok (by omega) (fun T H locs env ls stk h => by obtain ⟨w, hw⟩ := h.2.1; rw [hw]; exact z_app he.2.2.1)) (ih (i + 6) (by omega) (by omega)) hc.2
        | false =>
          rw [hc] at hL3
          exact zm_rd_ok hgg hx hb hX hbl rfl (by omega) (by omega) hOB he hL3 hall
      · exact z_stp_ok hgg hx hb hml hD (Nat.le_refl _) hXp hKX hKS (fun j hj => by rw [hin] at hj; cases hj) hPH hok (fun pc st hd hf => by cases hf) (fun pc st hd hf => zl_fin_ok hgg rfl hend hd hf) hL2 hall
end ZLOOP2
end
section
/-! The law from its entry: the objects are made, then the loop. -/
section ZSTART
variable {p : Program} {l : Launch} {e : Env} {R : Room} {s : State} {m : MethodId} {args : Array Value} {below : List Frame} {meth : Method} {c : Code} {Q : State → Prop} {cc : ByteArray}
variable {OB : Nat → Nat} {D : va_G} {DA : Nat → ClassId} {cl : List vw_C} {FT : Nat → Nat → FieldType} {TY : List zTy} {PHI : List (List Nat)} {nL : Nat} {KXf : (Nat → Nat) → Nat → State → Heap → Prop}
variable {TBL : List Cond} {own : String} {MT : List zM} {SG : List (Nat × zSig)} {PHS : List Nat} {ce : zCe} {mc ms : Nat} {b L N : Nat} {xs : Nat → Int32} {hd : zS} {hpc : Nat}
theorem zm_law (hx : p.tables.exec = Jvm.exec) (hb : c.code = cc) (hml : c.maxLocals = nL) (hX : va_X b L xs s s.heap) (hbl : b < s.heap.size) (hN : N ≤ 100000) (hL : L ≤ N) (hOB : OB 0 = b) (hD : z_Dy s m args TBL own D cl DA (z_tys DA)) (hXp : z_KXp s.heap.size (KXf OB s.heap.size)) (hKX : KXf OB s.heap.size s s.heap) (hKS : z_KS TBL TBL cl FT own MT ce.1) (hin : k_IN ce.1 = none) (hPH : ∀ a ∈ PHS, z_phok TY PHI a = true)
    (hok : ∀ g ∈ (k_CA ce.1).filterMap (fun a => SG[a.2]?), ∀ m2, MT[g.1]? = some m2 → z_OK TBL cl FT TY PHI KXf m2.1 m2.2.1 m2.2.2.1 m2.2.2.2.1 g.2) (hend : ∀ pc H ls, decode cc pc = .ok (.ireturn, 1) → W p l e R s m args below meth c H [] mc ms Q (F0 m pc ls [.int 1]))
    (hn : z_n hd = 5) (hV : (2, Sum.inl ((0 : Int), (N : Int))) ∈ z_V hd) (hS : zm_chkS TY PHI cl FT MT SG PHS R nL mc ms cc ce hd hpc (N : Int) = true) (h0 : zm_chk0 TY PHI cl FT MT SG PHS R nL mc ms cc ce hd hpc = true) (hP : zm_chkP TY PHI cl FT MT SG PHS R nL mc ms cc ce hd hpc ce.2.1 = true)
    {ls : Array Slot} (hls : z_ls nL ls [.ref b, .int (Int32.ofNat L)] [(0, 0)]) : W p l e R s m args below meth c s.heap [] 0 0 Q (F0 m 0 ls []) := by
  have hLi : (Int32.ofNat L).toInt = (L : Int) := Int32.toInt_ofNat_of_lt (by omega)
  have hsat : z_sat OB D DA cl TY PHI s.heap.size none false (fun _ => none) s.heap [.ref b, .int (Int32.ofNat L)] nL (zm_st0 (N : Int)) (fun _ => none) s.heap [] [.ref b, .int (Int32.ofNat L)] ls [] := by
    refine ⟨rfl, ⟨[], by rw [List.append_nil]⟩, hls, rfl, fun q hq => ?_, fun q hq => absurd hq List.not_mem_nil, fun q hq => absurd hq List.not_mem_nil, fun q hq => absurd hq List.not_mem_nil, trivial, ⟨fun a t ht => absurd ht (by simp), fun a t ci fl ha => absurd ha (by simp), fun a a' t t' ci fl fl' ha => absurd ha (by simp)⟩, ⟨fun a t ht => absurd ht (by simp), fun h => absurd h (by simp), z_fin_rf⟩, fun a t ht => absurd ht (by simp), fun q _ _ _ => ⟨rfl, rfl⟩, va_S.rf⟩
    rcases List.mem_cons.mp hq with rfl | hq
    · exact ⟨_, rfl, by show _ = Value.ref (OB 0); rw [hOB]⟩
    rcases List.mem_cons.mp hq with rfl | hq
    · exact ⟨_, rfl, _, rfl, by rw [z_in, hLi]; exact ⟨by show (0 : Int) ≤ _; omega, by show _ ≤ (N : Int); omega⟩⟩
    cases hq
  refine z_runs (CU := []) (ng := 2) (ends := fun env : List Value => env[0]? = some (Value.ref b) ∧ env[1]? = some (Value.int (Int32.ofNat L))) (fun env1 env2 he hgh => ⟨(hgh 0 (by omega)).trans he.1, (hgh 1 (by omega)).trans he.2⟩) (fun env1 pc st Ls he hL2 hall => ?_) (stp := zm_stp TY PHI cl FT MT SG PHS R nL mc ms cc ce.1 (zm_hs hd hpc)) (fuel := ce.2.2) rfl hS ⟨rfl, rfl⟩ (Nat.le_refl _) hsat
  have hgg : z_Good p l e R s m args below meth c Q OB D DA cl TY PHI s.heap.size none false (fun _ => none) s.heap env1 nL (fun pc st => ∀ T2 H2 locs2 env2 ls2 stk2, z_sat OB D DA cl TY PHI s.heap.size none false (fun _ => none) s.heap env1 nL st T2 H2 locs2 env2 ls2 stk2 → W p l e R s m args below meth c H2 locs2 (z_C st).1 (z_C st).2 Q (F0 m pc ls2 stk2)) := fun _ _ => Iff.rfl
  unfold zm_stp z_hst at hL2
  split at hL2
  · rename_i L3 hL3
    cases hL2
    unfold zm_hs at hL3
    obtain ⟨hc, -⟩ := z_cond hL3
    rw [Bool.and_eq_true] at hc
    have hpc2 := z_beq hc.1
    subst hpc2
    refine zm_fit_ok (i' := 0) hn hgg he.1 he.2 (fun T H locs env ls stk d h hv => ?_) (zm_loop hx hb hml hX hbl hN hL hOB hD hXp hKX hKS hin hPH hok hend hn hV h0 hP (N + 1) 0 (by omega) (by omega)) hc.2
    unfold zm_iv0 at hv
    split at hv
    · rename_i r hr
      rw [Bool.and_eq_true] at hv
      obtain ⟨v, g1, x, rfl, g2⟩ := z_get_ok h.2.2.2.2.1 hr
      have a1 := z_ile_ok hv.1
      have a2 := z_ile_ok hv.2
      have b1 := g2.1
      have b2 := g2.2
      have : x = 0 := z_int0 (by omega)
      rw [g1, this]
      rfl
    · cases hv
  · exact z_stp_ok hgg hx hb hml hD (Nat.le_refl _) hXp hKX hKS (fun j hj => by rw [hin] at hj; cases hj) hPH hok (fun pc st hd hf => by cases hf) (fun pc st hd hf => zl_fin_ok hgg rfl hend hd hf) hL2 hall
end ZSTART
end
section
/-! String constants over named cells: the string is the name 902, its bytes are the name 903. -/
def zs_by (j : Nat) : Int32 := ([104, 117, 105, 109, 114, 99, 107, 110, 115, 101, 120, 121, 100] : List Int32).getD j 0
def zs_K3 (own tx : String) (k n : Nat) (OB : Nat → Nat) (sz : Nat) (U : State) (H : Heap) : Prop := ∃ (f : Nat → Value), vk_R own k tx (OB 2) U ∧ va_O "java/lang/String" (OB 2) (fun q => sz ≤ q) U H ∧ va_OF "java/lang/String" "coder" "B" (.int 0) (OB 2) (fun q => sz ≤ q) U H ∧ va_OF "java/lang/String" "value" "[B" (.ref (OB 3)) (OB 2) (fun q => sz ≤ q) U H ∧ va_T .byte (OB 3) n f (fun q => sz ≤ q) U H ∧ va_Z "java/lang/String" "COMPACT_STRINGS" "Z" (.int 1) (fun q => sz ≤ q) U H ∧ ∀ j, j < n → f j = .int (zs_by j)
theorem zs_K3_p {own tx : String} {k n : Nat} {OB : Nat → Nat} {sz : Nat} : z_KXp sz (zs_K3 own tx k n OB sz) := by
  refine ⟨fun s U H h hW => ?_, fun s H H1 h _ hq => ?_, fun u U H hvm h => ?_⟩
  · obtain ⟨f, k1, k2, k3, k4, k5, k6, k7⟩ := h
    exact ⟨f, vk_R.warm hW k1, va_O.moved hW.alike k2, va_OF.moved hW.alike k3, va_OF.moved hW.alike k4, va_T.moved hW.alike k5, va_Z.moved hW.alike k6, k7⟩
  · obtain ⟨f, k1, k2, k3, k4, k5, k6, k7⟩ := h
    exact ⟨f, k1, k2.kept hq, k3.kept hq, k4.kept hq, k5.kept hq, k6.kept hq, k7⟩
  · obtain ⟨f, k1, k2, k3, k4, k5, k6, k7⟩ := h
    have ha : u.vm.Alike U.vm := by rw [hvm]; exact Vm.Alike.refl _
    exact ⟨f, vk_R.same hvm k1, va_O.moved ha k2, va_OF.moved ha k3, va_OF.moved ha k4, va_T.moved ha k5, va_Z.moved ha k6, k7⟩
def zs_KX (own tx : String) (k n : Nat) (own2 : String) (k2 : Nat) (OB : Nat → Nat) (sz : Nat) (U : State) (H : Heap) : Prop := zs_K own tx k n OB sz U H ∧ zs_K3 own2 tx k2 n OB sz U H
theorem zs_KX_p {own own2 tx : String} {k k2 n : Nat} {OB : Nat → Nat} {sz : Nat} : z_KXp sz (zs_KX own tx k n own2 k2 OB sz) :=
  ⟨fun s U H h hW => ⟨zs_K_p.1 s U H h.1 hW, zs_K3_p.1 s U H h.2 hW⟩, fun s H H1 h h1 hq => ⟨zs_K_p.2.1 s H H1 h.1 h1 hq, zs_K3_p.2.1 s H H1 h.2 h1 hq⟩, fun u U H hvm h => ⟨zs_K_p.2.2 u U H hvm h.1, zs_K3_p.2.2 u U H hvm h.2⟩⟩
end
section
/-! The tables' words. -/
/-- a private method of a class that the tables say can be made, by its rows of tables_1 -/
def lw_okq (q : MethodName × Nat) : Prop := (q.1.cls ≠ "java/lang/invoke/MethodHandle" ∧ q.1.cls ≠ "java/lang/invoke/VarHandle") ∧ Cond.instantiable q.1.cls q.2 ∈ tables_1 ∧ Cond.privateMethod q.1 ∈ tables_1 ∧ Cond.instanceMethod q.1 ∈ tables_1
theorem lw_p0 : lw_okq (⟨"StarTales$LawReader", "readClause", "()V"⟩, 5) := ⟨⟨by decide +kernel, by decide +kernel⟩, List.mem_of_getElem? (i := 207) (by decide +kernel), List.mem_of_getElem? (i := 592) (by decide +kernel), List.mem_of_getElem? (i := 593) (by decide +kernel)⟩
theorem lw_p1 : lw_okq (⟨"StarTales$LawReader", "peek", "()I"⟩, 5) := ⟨⟨by decide +kernel, by decide +kernel⟩, List.mem_of_getElem? (i := 207) (by decide +kernel), List.mem_of_getElem? (i := 596) (by decide +kernel), List.mem_of_getElem? (i := 597) (by decide +kernel)⟩
theorem lw_p2 : lw_okq (⟨"StarTales$LawReader", "fail", "(I)V"⟩, 5) := ⟨⟨by decide +kernel, by decide +kernel⟩, List.mem_of_getElem? (i := 207) (by decide +kernel), List.mem_of_getElem? (i := 600) (by decide +kernel), List.mem_of_getElem? (i := 601) (by decide +kernel)⟩
theorem lw_p3 : lw_okq (⟨"StarTales$LawReader", "readSum", "(I)V"⟩, 5) := ⟨⟨by decide +kernel, by decide +kernel⟩, List.mem_of_getElem? (i := 207) (by decide +kernel), List.mem_of_getElem? (i := 607) (by decide +kernel), List.mem_of_getElem? (i := 608) (by decide +kernel)⟩
theorem lw_p4 : lw_okq (⟨"StarTales$LawReader", "readTerm", "(I)V"⟩, 5) := ⟨⟨by decide +kernel, by decide +kernel⟩, List.mem_of_getElem? (i := 207) (by decide +kernel), List.mem_of_getElem? (i := 611) (by decide +kernel), List.mem_of_getElem? (i := 612) (by decide +kernel)⟩
theorem lw_p5 : lw_okq (⟨"StarTales$LawReader", "readFactor", "(I)V"⟩, 5) := ⟨⟨by decide +kernel, by decide +kernel⟩, List.mem_of_getElem? (i := 207) (by decide +kernel), List.mem_of_getElem? (i := 615) (by decide +kernel), List.mem_of_getElem? (i := 616) (by decide +kernel)⟩
theorem lw_p6 : lw_okq (⟨"StarTales$LawReader", "skip", "(I)V"⟩, 5) := ⟨⟨by decide +kernel, by decide +kernel⟩, List.mem_of_getElem? (i := 207) (by decide +kernel), List.mem_of_getElem? (i := 619) (by decide +kernel), List.mem_of_getElem? (i := 620) (by decide +kernel)⟩
theorem lw_p7 : lw_okq (⟨"StarTales$LawReader", "readNumber", "()V"⟩, 5) := ⟨⟨by decide +kernel, by decide +kernel⟩, List.mem_of_getElem? (i := 207) (by decide +kernel), List.mem_of_getElem? (i := 626) (by decide +kernel), List.mem_of_getElem? (i := 627) (by decide +kernel)⟩
theorem lw_p8 : lw_okq (⟨"StarTales$LawReader", "readCondition", "(I)V"⟩, 5) := ⟨⟨by decide +kernel, by decide +kernel⟩, List.mem_of_getElem? (i := 207) (by decide +kernel), List.mem_of_getElem? (i := 710) (by decide +kernel), List.mem_of_getElem? (i := 711) (by decide +kernel)⟩
theorem lw_p9 : lw_okq (⟨"StarTales$LawReader", "readPart", "(I)V"⟩, 5) := ⟨⟨by decide +kernel, by decide +kernel⟩, List.mem_of_getElem? (i := 207) (by decide +kernel), List.mem_of_getElem? (i := 714) (by decide +kernel), List.mem_of_getElem? (i := 715) (by decide +kernel)⟩
theorem lw_p10 : lw_okq (⟨"StarTales$LawReader", "readPiece", "(I)V"⟩, 5) := ⟨⟨by decide +kernel, by decide +kernel⟩, List.mem_of_getElem? (i := 207) (by decide +kernel), List.mem_of_getElem? (i := 718) (by decide +kernel), List.mem_of_getElem? (i := 719) (by decide +kernel)⟩
theorem lw_p11 : lw_okq (⟨"StarTales$LawReader", "readComparison", "(I)V"⟩, 5) := ⟨⟨by decide +kernel, by decide +kernel⟩, List.mem_of_getElem? (i := 207) (by decide +kernel), List.mem_of_getElem? (i := 722) (by decide +kernel), List.mem_of_getElem? (i := 723) (by decide +kernel)⟩
theorem lw_p12 : lw_okq (⟨"StarTales$Law", "hasLetter", "(II)Z"⟩, 15) := ⟨⟨by decide +kernel, by decide +kernel⟩, List.mem_of_getElem? (i := 134) (by decide +kernel), List.mem_of_getElem? (i := 734) (by decide +kernel), List.mem_of_getElem? (i := 735) (by decide +kernel)⟩
theorem lw_p13 : lw_okq (⟨"StarTales$Tale", "addLine", "(II)V"⟩, 3) := ⟨⟨by decide +kernel, by decide +kernel⟩, List.mem_of_getElem? (i := 229) (by decide +kernel), List.mem_of_getElem? (i := 753) (by decide +kernel), List.mem_of_getElem? (i := 754) (by decide +kernel)⟩
theorem lw_p14 : lw_okq (⟨"StarTales$Law", "run", "(II)Z"⟩, 15) := ⟨⟨by decide +kernel, by decide +kernel⟩, List.mem_of_getElem? (i := 134) (by decide +kernel), List.mem_of_getElem? (i := 814) (by decide +kernel), List.mem_of_getElem? (i := 815) (by decide +kernel)⟩
theorem lw_p15 : lw_okq (⟨"StarTales", "lookAndDraw", "(LStarTales$View;II)V"⟩, 19) := ⟨⟨by decide +kernel, by decide +kernel⟩, List.mem_of_getElem? (i := 24) (by decide +kernel), List.mem_of_getElem? (i := 823) (by decide +kernel), List.mem_of_getElem? (i := 824) (by decide +kernel)⟩
def lw_privs_1 : List (MethodName × Nat) := [(⟨"StarTales$LawReader", "readClause", "()V"⟩, 5), (⟨"StarTales$LawReader", "peek", "()I"⟩, 5), (⟨"StarTales$LawReader", "fail", "(I)V"⟩, 5), (⟨"StarTales$LawReader", "readSum", "(I)V"⟩, 5), (⟨"StarTales$LawReader", "readTerm", "(I)V"⟩, 5), (⟨"StarTales$LawReader", "readFactor", "(I)V"⟩, 5), (⟨"StarTales$LawReader", "skip", "(I)V"⟩, 5), (⟨"StarTales$LawReader", "readNumber", "()V"⟩, 5), (⟨"StarTales$LawReader", "readCondition", "(I)V"⟩, 5), (⟨"StarTales$LawReader", "readPart", "(I)V"⟩, 5), (⟨"StarTales$LawReader", "readPiece", "(I)V"⟩, 5), (⟨"StarTales$LawReader", "readComparison", "(I)V"⟩, 5), (⟨"StarTales$Law", "hasLetter", "(II)Z"⟩, 15), (⟨"StarTales$Tale", "addLine", "(II)V"⟩, 3), (⟨"StarTales$Law", "run", "(II)Z"⟩, 15), (⟨"StarTales", "lookAndDraw", "(LStarTales$View;II)V"⟩, 19)]
theorem lw_r1 : ∀ q ∈ lw_privs_1, lw_okq q := List.forall_mem_cons.mpr ⟨lw_p0, List.forall_mem_cons.mpr ⟨lw_p1, List.forall_mem_cons.mpr ⟨lw_p2, List.forall_mem_cons.mpr ⟨lw_p3, List.forall_mem_cons.mpr ⟨lw_p4, List.forall_mem_cons.mpr ⟨lw_p5, List.forall_mem_cons.mpr ⟨lw_p6, List.forall_mem_cons.mpr ⟨lw_p7, List.forall_mem_cons.mpr ⟨lw_p8, List.forall_mem_cons.mpr ⟨lw_p9, List.forall_mem_cons.mpr ⟨lw_p10, List.forall_mem_cons.mpr ⟨lw_p11, List.forall_mem_cons.mpr ⟨lw_p12, List.forall_mem_cons.mpr ⟨lw_p13, List.forall_mem_cons.mpr ⟨lw_p14, List.forall_mem_cons.mpr ⟨lw_p15, fun _ h => absurd h List.not_mem_nil⟩⟩⟩⟩⟩⟩⟩⟩⟩⟩⟩⟩⟩⟩⟩⟩
theorem lw_p16 : lw_okq (⟨"StarTales$View", "isDrawn", "(II)Z"⟩, 10) := ⟨⟨by decide +kernel, by decide +kernel⟩, List.mem_of_getElem? (i := 249) (by decide +kernel), List.mem_of_getElem? (i := 831) (by decide +kernel), List.mem_of_getElem? (i := 832) (by decide +kernel)⟩
theorem lw_p17 : lw_okq (⟨"StarTales$Matcher", "begin", "(LStarTales$Tale;I[I)V"⟩, 7) := ⟨⟨by decide +kernel, by decide +kernel⟩, List.mem_of_getElem? (i := 296) (by decide +kernel), List.mem_of_getElem? (i := 896) (by decide +kernel), List.mem_of_getElem? (i := 897) (by decide +kernel)⟩
theorem lw_p18 : lw_okq (⟨"StarTales$Matcher", "withLegs", "(II)I"⟩, 7) := ⟨⟨by decide +kernel, by decide +kernel⟩, List.mem_of_getElem? (i := 296) (by decide +kernel), List.mem_of_getElem? (i := 901) (by decide +kernel), List.mem_of_getElem? (i := 902) (by decide +kernel)⟩
theorem lw_p19 : lw_okq (⟨"StarTales$Matcher", "search", "(III)I"⟩, 7) := ⟨⟨by decide +kernel, by decide +kernel⟩, List.mem_of_getElem? (i := 296) (by decide +kernel), List.mem_of_getElem? (i := 905) (by decide +kernel), List.mem_of_getElem? (i := 906) (by decide +kernel)⟩
theorem lw_p20 : lw_okq (⟨"StarTales$Matcher", "tightest", "(II)I"⟩, 7) := ⟨⟨by decide +kernel, by decide +kernel⟩, List.mem_of_getElem? (i := 296) (by decide +kernel), List.mem_of_getElem? (i := 909) (by decide +kernel), List.mem_of_getElem? (i := 910) (by decide +kernel)⟩
theorem lw_p21 : lw_okq (⟨"StarTales$Matcher", "narrow", "(IIII)Z"⟩, 7) := ⟨⟨by decide +kernel, by decide +kernel⟩, List.mem_of_getElem? (i := 296) (by decide +kernel), List.mem_of_getElem? (i := 913) (by decide +kernel), List.mem_of_getElem? (i := 914) (by decide +kernel)⟩
theorem lw_p22 : lw_okq (⟨"StarTales$Matcher", "agree", "(II)Z"⟩, 7) := ⟨⟨by decide +kernel, by decide +kernel⟩, List.mem_of_getElem? (i := 296) (by decide +kernel), List.mem_of_getElem? (i := 917) (by decide +kernel), List.mem_of_getElem? (i := 918) (by decide +kernel)⟩
theorem lw_p23 : lw_okq (⟨"StarTales$Matcher", "besides", "(I)I"⟩, 7) := ⟨⟨by decide +kernel, by decide +kernel⟩, List.mem_of_getElem? (i := 296) (by decide +kernel), List.mem_of_getElem? (i := 921) (by decide +kernel), List.mem_of_getElem? (i := 922) (by decide +kernel)⟩
theorem lw_p24 : lw_okq (⟨"StarTales$Matcher", "settleLowest", "(I)Z"⟩, 7) := ⟨⟨by decide +kernel, by decide +kernel⟩, List.mem_of_getElem? (i := 296) (by decide +kernel), List.mem_of_getElem? (i := 930) (by decide +kernel), List.mem_of_getElem? (i := 931) (by decide +kernel)⟩
theorem lw_p25 : lw_okq (⟨"StarTales", "canBeTold", "(I)Z"⟩, 19) := ⟨⟨by decide +kernel, by decide +kernel⟩, List.mem_of_getElem? (i := 24) (by decide +kernel), List.mem_of_getElem? (i := 938) (by decide +kernel), List.mem_of_getElem? (i := 939) (by decide +kernel)⟩
theorem lw_p26 : lw_okq (⟨"StarTales$Patches", "fillParts", "(II[I)I"⟩, 7) := ⟨⟨by decide +kernel, by decide +kernel⟩, List.mem_of_getElem? (i := 381) (by decide +kernel), List.mem_of_getElem? (i := 966) (by decide +kernel), List.mem_of_getElem? (i := 967) (by decide +kernel)⟩
theorem lw_p27 : lw_okq (⟨"StarTales$Patches", "isSame", "(II)Z"⟩, 7) := ⟨⟨by decide +kernel, by decide +kernel⟩, List.mem_of_getElem? (i := 381) (by decide +kernel), List.mem_of_getElem? (i := 986) (by decide +kernel), List.mem_of_getElem? (i := 987) (by decide +kernel)⟩
theorem lw_p28 : lw_okq (⟨"StarTales$Chooser", "pairsApart", "(II)I"⟩, 7) := ⟨⟨by decide +kernel, by decide +kernel⟩, List.mem_of_getElem? (i := 410) (by decide +kernel), List.mem_of_getElem? (i := 1026) (by decide +kernel), List.mem_of_getElem? (i := 1027) (by decide +kernel)⟩
theorem lw_p29 : lw_okq (⟨"StarTales$Chooser", "leastCover", "(III)I"⟩, 7) := ⟨⟨by decide +kernel, by decide +kernel⟩, List.mem_of_getElem? (i := 410) (by decide +kernel), List.mem_of_getElem? (i := 1031) (by decide +kernel), List.mem_of_getElem? (i := 1032) (by decide +kernel)⟩
theorem lw_p30 : lw_okq (⟨"StarTales$Chooser", "offer", "(II)V"⟩, 7) := ⟨⟨by decide +kernel, by decide +kernel⟩, List.mem_of_getElem? (i := 410) (by decide +kernel), List.mem_of_getElem? (i := 1057) (by decide +kernel), List.mem_of_getElem? (i := 1058) (by decide +kernel)⟩
theorem lw_p31 : lw_okq (⟨"StarTales$Pilot", "spread", "(LStarTales$Sea;I[I)V"⟩, 15) := ⟨⟨by decide +kernel, by decide +kernel⟩, List.mem_of_getElem? (i := 325) (by decide +kernel), List.mem_of_getElem? (i := 1138) (by decide +kernel), List.mem_of_getElem? (i := 1139) (by decide +kernel)⟩
def lw_privs_2 : List (MethodName × Nat) := [(⟨"StarTales$View", "isDrawn", "(II)Z"⟩, 10), (⟨"StarTales$Matcher", "begin", "(LStarTales$Tale;I[I)V"⟩, 7), (⟨"StarTales$Matcher", "withLegs", "(II)I"⟩, 7), (⟨"StarTales$Matcher", "search", "(III)I"⟩, 7), (⟨"StarTales$Matcher", "tightest", "(II)I"⟩, 7), (⟨"StarTales$Matcher", "narrow", "(IIII)Z"⟩, 7), (⟨"StarTales$Matcher", "agree", "(II)Z"⟩, 7), (⟨"StarTales$Matcher", "besides", "(I)I"⟩, 7), (⟨"StarTales$Matcher", "settleLowest", "(I)Z"⟩, 7), (⟨"StarTales", "canBeTold", "(I)Z"⟩, 19), (⟨"StarTales$Patches", "fillParts", "(II[I)I"⟩, 7), (⟨"StarTales$Patches", "isSame", "(II)Z"⟩, 7), (⟨"StarTales$Chooser", "pairsApart", "(II)I"⟩, 7), (⟨"StarTales$Chooser", "leastCover", "(III)I"⟩, 7), (⟨"StarTales$Chooser", "offer", "(II)V"⟩, 7), (⟨"StarTales$Pilot", "spread", "(LStarTales$Sea;I[I)V"⟩, 15)]
theorem lw_r2 : ∀ q ∈ lw_privs_2, lw_okq q := List.forall_mem_cons.mpr ⟨lw_p16, List.forall_mem_cons.mpr ⟨lw_p17, List.forall_mem_cons.mpr ⟨lw_p18, List.forall_mem_cons.mpr ⟨lw_p19, List.forall_mem_cons.mpr ⟨lw_p20, List.forall_mem_cons.mpr ⟨lw_p21, List.forall_mem_cons.mpr ⟨lw_p22, List.forall_mem_cons.mpr ⟨lw_p23, List.forall_mem_cons.mpr ⟨lw_p24, List.forall_mem_cons.mpr ⟨lw_p25, List.forall_mem_cons.mpr ⟨lw_p26, List.forall_mem_cons.mpr ⟨lw_p27, List.forall_mem_cons.mpr ⟨lw_p28, List.forall_mem_cons.mpr ⟨lw_p29, List.forall_mem_cons.mpr ⟨lw_p30, List.forall_mem_cons.mpr ⟨lw_p31, fun _ h => absurd h List.not_mem_nil⟩⟩⟩⟩⟩⟩⟩⟩⟩⟩⟩⟩⟩⟩⟩⟩
theorem lw_p32 : lw_okq (⟨"StarTales", "canAskVoyage", "(III)Z"⟩, 19) := ⟨⟨by decide +kernel, by decide +kernel⟩, List.mem_of_getElem? (i := 24) (by decide +kernel), List.mem_of_getElem? (i := 1153) (by decide +kernel), List.mem_of_getElem? (i := 1154) (by decide +kernel)⟩
theorem lw_p33 : lw_okq (⟨"StarTales$Pilot", "stepFirstLegs", "(LStarTales$View;LStarTales$Sea;)V"⟩, 15) := ⟨⟨by decide +kernel, by decide +kernel⟩, List.mem_of_getElem? (i := 325) (by decide +kernel), List.mem_of_getElem? (i := 1162) (by decide +kernel), List.mem_of_getElem? (i := 1163) (by decide +kernel)⟩
theorem lw_p34 : lw_okq (⟨"StarTales$Pilot", "turnOnward", "(LStarTales$View;)V"⟩, 15) := ⟨⟨by decide +kernel, by decide +kernel⟩, List.mem_of_getElem? (i := 325) (by decide +kernel), List.mem_of_getElem? (i := 1168) (by decide +kernel), List.mem_of_getElem? (i := 1169) (by decide +kernel)⟩
theorem lw_p35 : lw_okq (⟨"StarTales$Pilot", "endFirstLegs", "(LStarTales$Sky;I)V"⟩, 15) := ⟨⟨by decide +kernel, by decide +kernel⟩, List.mem_of_getElem? (i := 325) (by decide +kernel), List.mem_of_getElem? (i := 1182) (by decide +kernel), List.mem_of_getElem? (i := 1183) (by decide +kernel)⟩
theorem lw_p36 : lw_okq (⟨"StarTales$Pilot", "isBroughtByLower", "(LStarTales$Sky;I)Z"⟩, 15) := ⟨⟨by decide +kernel, by decide +kernel⟩, List.mem_of_getElem? (i := 325) (by decide +kernel), List.mem_of_getElem? (i := 1186) (by decide +kernel), List.mem_of_getElem? (i := 1187) (by decide +kernel)⟩
theorem lw_p37 : lw_okq (⟨"StarTales$Pilot", "followSecond", "(LStarTales$View;LStarTales$Sea;III)V"⟩, 15) := ⟨⟨by decide +kernel, by decide +kernel⟩, List.mem_of_getElem? (i := 325) (by decide +kernel), List.mem_of_getElem? (i := 1191) (by decide +kernel), List.mem_of_getElem? (i := 1192) (by decide +kernel)⟩
theorem lw_p38 : lw_okq (⟨"StarTales$Matcher", "hide", "(LStarTales$Tale;LStarTales$View;II)V"⟩, 7) := ⟨⟨by decide +kernel, by decide +kernel⟩, List.mem_of_getElem? (i := 296) (by decide +kernel), List.mem_of_getElem? (i := 1211) (by decide +kernel), List.mem_of_getElem? (i := 1212) (by decide +kernel)⟩
theorem lw_p39 : lw_okq (⟨"StarTales$Matcher", "columnsOfWay", "(LStarTales$Tale;LStarTales$Sky;)I"⟩, 7) := ⟨⟨by decide +kernel, by decide +kernel⟩, List.mem_of_getElem? (i := 296) (by decide +kernel), List.mem_of_getElem? (i := 1220) (by decide +kernel), List.mem_of_getElem? (i := 1221) (by decide +kernel)⟩
theorem lw_p40 : lw_okq (⟨"StarTales", "isLogBytes", "(I)Z"⟩, 19) := ⟨⟨by decide +kernel, by decide +kernel⟩, List.mem_of_getElem? (i := 24) (by decide +kernel), List.mem_of_getElem? (i := 1228) (by decide +kernel), List.mem_of_getElem? (i := 1229) (by decide +kernel)⟩
theorem lw_p41 : lw_okq (⟨"StarTales", "moveSpots", "(I)V"⟩, 19) := ⟨⟨by decide +kernel, by decide +kernel⟩, List.mem_of_getElem? (i := 24) (by decide +kernel), List.mem_of_getElem? (i := 1232) (by decide +kernel), List.mem_of_getElem? (i := 1233) (by decide +kernel)⟩
theorem lw_p42 : lw_okq (⟨"StarTales", "countSpots", "()I"⟩, 19) := ⟨⟨by decide +kernel, by decide +kernel⟩, List.mem_of_getElem? (i := 24) (by decide +kernel), List.mem_of_getElem? (i := 1237) (by decide +kernel), List.mem_of_getElem? (i := 1238) (by decide +kernel)⟩
theorem lw_p43 : lw_okq (⟨"StarTales", "firstSpot", "()I"⟩, 19) := ⟨⟨by decide +kernel, by decide +kernel⟩, List.mem_of_getElem? (i := 24) (by decide +kernel), List.mem_of_getElem? (i := 1241) (by decide +kernel), List.mem_of_getElem? (i := 1242) (by decide +kernel)⟩
theorem lw_p44 : lw_okq (⟨"StarTalesModel", "isTold", "(I)Z"⟩, 64) := ⟨⟨by decide +kernel, by decide +kernel⟩, List.mem_of_getElem? (i := 1295) (by decide +kernel), List.mem_of_getElem? (i := 1508) (by decide +kernel), List.mem_of_getElem? (i := 1509) (by decide +kernel)⟩
theorem lw_p45 : lw_okq (⟨"StarTalesModel", "isShip", "(I)Z"⟩, 64) := ⟨⟨by decide +kernel, by decide +kernel⟩, List.mem_of_getElem? (i := 1295) (by decide +kernel), List.mem_of_getElem? (i := 1536) (by decide +kernel), List.mem_of_getElem? (i := 1537) (by decide +kernel)⟩
theorem lw_p46 : lw_okq (⟨"StarTalesModel", "isLand", "(I)Z"⟩, 64) := ⟨⟨by decide +kernel, by decide +kernel⟩, List.mem_of_getElem? (i := 1295) (by decide +kernel), List.mem_of_getElem? (i := 1544) (by decide +kernel), List.mem_of_getElem? (i := 1545) (by decide +kernel)⟩
theorem lw_p47 : lw_okq (⟨"StarTalesModel", "types", "(I)V"⟩, 64) := ⟨⟨by decide +kernel, by decide +kernel⟩, List.mem_of_getElem? (i := 1295) (by decide +kernel), List.mem_of_getElem? (i := 1552) (by decide +kernel), List.mem_of_getElem? (i := 1553) (by decide +kernel)⟩
def lw_privs_3 : List (MethodName × Nat) := [(⟨"StarTales", "canAskVoyage", "(III)Z"⟩, 19), (⟨"StarTales$Pilot", "stepFirstLegs", "(LStarTales$View;LStarTales$Sea;)V"⟩, 15), (⟨"StarTales$Pilot", "turnOnward", "(LStarTales$View;)V"⟩, 15), (⟨"StarTales$Pilot", "endFirstLegs", "(LStarTales$Sky;I)V"⟩, 15), (⟨"StarTales$Pilot", "isBroughtByLower", "(LStarTales$Sky;I)Z"⟩, 15), (⟨"StarTales$Pilot", "followSecond", "(LStarTales$View;LStarTales$Sea;III)V"⟩, 15), (⟨"StarTales$Matcher", "hide", "(LStarTales$Tale;LStarTales$View;II)V"⟩, 7), (⟨"StarTales$Matcher", "columnsOfWay", "(LStarTales$Tale;LStarTales$Sky;)I"⟩, 7), (⟨"StarTales", "isLogBytes", "(I)Z"⟩, 19), (⟨"StarTales", "moveSpots", "(I)V"⟩, 19), (⟨"StarTales", "countSpots", "()I"⟩, 19), (⟨"StarTales", "firstSpot", "()I"⟩, 19), (⟨"StarTalesModel", "isTold", "(I)Z"⟩, 64), (⟨"StarTalesModel", "isShip", "(I)Z"⟩, 64), (⟨"StarTalesModel", "isLand", "(I)Z"⟩, 64), (⟨"StarTalesModel", "types", "(I)V"⟩, 64)]
theorem lw_r3 : ∀ q ∈ lw_privs_3, lw_okq q := List.forall_mem_cons.mpr ⟨lw_p32, List.forall_mem_cons.mpr ⟨lw_p33, List.forall_mem_cons.mpr ⟨lw_p34, List.forall_mem_cons.mpr ⟨lw_p35, List.forall_mem_cons.mpr ⟨lw_p36, List.forall_mem_cons.mpr ⟨lw_p37, List.forall_mem_cons.mpr ⟨lw_p38, List.forall_mem_cons.mpr ⟨lw_p39, List.forall_mem_cons.mpr ⟨lw_p40, List.forall_mem_cons.mpr ⟨lw_p41, List.forall_mem_cons.mpr ⟨lw_p42, List.forall_mem_cons.mpr ⟨lw_p43, List.forall_mem_cons.mpr ⟨lw_p44, List.forall_mem_cons.mpr ⟨lw_p45, List.forall_mem_cons.mpr ⟨lw_p46, List.forall_mem_cons.mpr ⟨lw_p47, fun _ h => absurd h List.not_mem_nil⟩⟩⟩⟩⟩⟩⟩⟩⟩⟩⟩⟩⟩⟩⟩⟩
theorem lw_p48 : lw_okq (⟨"StarTalesModel", "readsClause", "()Z"⟩, 64) := ⟨⟨by decide +kernel, by decide +kernel⟩, List.mem_of_getElem? (i := 1295) (by decide +kernel), List.mem_of_getElem? (i := 1560) (by decide +kernel), List.mem_of_getElem? (i := 1561) (by decide +kernel)⟩
theorem lw_p49 : lw_okq (⟨"StarTalesModel", "here", "()I"⟩, 64) := ⟨⟨by decide +kernel, by decide +kernel⟩, List.mem_of_getElem? (i := 1295) (by decide +kernel), List.mem_of_getElem? (i := 1564) (by decide +kernel), List.mem_of_getElem? (i := 1565) (by decide +kernel)⟩
theorem lw_p50 : lw_okq (⟨"StarTalesModel", "wrongAt", "(II)Z"⟩, 64) := ⟨⟨by decide +kernel, by decide +kernel⟩, List.mem_of_getElem? (i := 1295) (by decide +kernel), List.mem_of_getElem? (i := 1571) (by decide +kernel), List.mem_of_getElem? (i := 1572) (by decide +kernel)⟩
theorem lw_p51 : lw_okq (⟨"StarTalesModel", "readsSum", "()Z"⟩, 64) := ⟨⟨by decide +kernel, by decide +kernel⟩, List.mem_of_getElem? (i := 1295) (by decide +kernel), List.mem_of_getElem? (i := 1575) (by decide +kernel), List.mem_of_getElem? (i := 1576) (by decide +kernel)⟩
theorem lw_p52 : lw_okq (⟨"StarTalesModel", "readsFactor", "()Z"⟩, 64) := ⟨⟨by decide +kernel, by decide +kernel⟩, List.mem_of_getElem? (i := 1295) (by decide +kernel), List.mem_of_getElem? (i := 1579) (by decide +kernel), List.mem_of_getElem? (i := 1580) (by decide +kernel)⟩
theorem lw_p53 : lw_okq (⟨"StarTalesModel", "opens", "(I)Z"⟩, 64) := ⟨⟨by decide +kernel, by decide +kernel⟩, List.mem_of_getElem? (i := 1295) (by decide +kernel), List.mem_of_getElem? (i := 1583) (by decide +kernel), List.mem_of_getElem? (i := 1584) (by decide +kernel)⟩
theorem lw_p54 : lw_okq (⟨"StarTalesModel", "isDigit", "()Z"⟩, 64) := ⟨⟨by decide +kernel, by decide +kernel⟩, List.mem_of_getElem? (i := 1295) (by decide +kernel), List.mem_of_getElem? (i := 1588) (by decide +kernel), List.mem_of_getElem? (i := 1589) (by decide +kernel)⟩
theorem lw_p55 : lw_okq (⟨"StarTalesModel", "readsNumber", "()Z"⟩, 64) := ⟨⟨by decide +kernel, by decide +kernel⟩, List.mem_of_getElem? (i := 1295) (by decide +kernel), List.mem_of_getElem? (i := 1592) (by decide +kernel), List.mem_of_getElem? (i := 1593) (by decide +kernel)⟩
theorem lw_p56 : lw_okq (⟨"StarTalesModel", "notes", "(II)V"⟩, 64) := ⟨⟨by decide +kernel, by decide +kernel⟩, List.mem_of_getElem? (i := 1295) (by decide +kernel), List.mem_of_getElem? (i := 1596) (by decide +kernel), List.mem_of_getElem? (i := 1597) (by decide +kernel)⟩
theorem lw_p57 : lw_okq (⟨"StarTalesModel", "closesSums", "(Z)V"⟩, 64) := ⟨⟨by decide +kernel, by decide +kernel⟩, List.mem_of_getElem? (i := 1295) (by decide +kernel), List.mem_of_getElem? (i := 1606) (by decide +kernel), List.mem_of_getElem? (i := 1607) (by decide +kernel)⟩
theorem lw_p58 : lw_okq (⟨"StarTalesModel", "waitTop", "()I"⟩, 64) := ⟨⟨by decide +kernel, by decide +kernel⟩, List.mem_of_getElem? (i := 1295) (by decide +kernel), List.mem_of_getElem? (i := 1610) (by decide +kernel), List.mem_of_getElem? (i := 1611) (by decide +kernel)⟩
theorem lw_p59 : lw_okq (⟨"StarTalesModel", "hasOpenSum", "(I)Z"⟩, 64) := ⟨⟨by decide +kernel, by decide +kernel⟩, List.mem_of_getElem? (i := 1295) (by decide +kernel), List.mem_of_getElem? (i := 1614) (by decide +kernel), List.mem_of_getElem? (i := 1615) (by decide +kernel)⟩
theorem lw_p60 : lw_okq (⟨"StarTalesModel", "readsCondition", "()Z"⟩, 64) := ⟨⟨by decide +kernel, by decide +kernel⟩, List.mem_of_getElem? (i := 1295) (by decide +kernel), List.mem_of_getElem? (i := 1618) (by decide +kernel), List.mem_of_getElem? (i := 1619) (by decide +kernel)⟩
theorem lw_p61 : lw_okq (⟨"StarTalesModel", "readsCompared", "()Z"⟩, 64) := ⟨⟨by decide +kernel, by decide +kernel⟩, List.mem_of_getElem? (i := 1295) (by decide +kernel), List.mem_of_getElem? (i := 1622) (by decide +kernel), List.mem_of_getElem? (i := 1623) (by decide +kernel)⟩
theorem lw_p62 : lw_okq (⟨"StarTalesModel", "endsPiece", "()V"⟩, 64) := ⟨⟨by decide +kernel, by decide +kernel⟩, List.mem_of_getElem? (i := 1295) (by decide +kernel), List.mem_of_getElem? (i := 1626) (by decide +kernel), List.mem_of_getElem? (i := 1627) (by decide +kernel)⟩
theorem lw_p63 : lw_okq (⟨"StarTalesModel", "lands", "(Z)V"⟩, 64) := ⟨⟨by decide +kernel, by decide +kernel⟩, List.mem_of_getElem? (i := 1295) (by decide +kernel), List.mem_of_getElem? (i := 1630) (by decide +kernel), List.mem_of_getElem? (i := 1631) (by decide +kernel)⟩
def lw_privs_4 : List (MethodName × Nat) := [(⟨"StarTalesModel", "readsClause", "()Z"⟩, 64), (⟨"StarTalesModel", "here", "()I"⟩, 64), (⟨"StarTalesModel", "wrongAt", "(II)Z"⟩, 64), (⟨"StarTalesModel", "readsSum", "()Z"⟩, 64), (⟨"StarTalesModel", "readsFactor", "()Z"⟩, 64), (⟨"StarTalesModel", "opens", "(I)Z"⟩, 64), (⟨"StarTalesModel", "isDigit", "()Z"⟩, 64), (⟨"StarTalesModel", "readsNumber", "()Z"⟩, 64), (⟨"StarTalesModel", "notes", "(II)V"⟩, 64), (⟨"StarTalesModel", "closesSums", "(Z)V"⟩, 64), (⟨"StarTalesModel", "waitTop", "()I"⟩, 64), (⟨"StarTalesModel", "hasOpenSum", "(I)Z"⟩, 64), (⟨"StarTalesModel", "readsCondition", "()Z"⟩, 64), (⟨"StarTalesModel", "readsCompared", "()Z"⟩, 64), (⟨"StarTalesModel", "endsPiece", "()V"⟩, 64), (⟨"StarTalesModel", "lands", "(Z)V"⟩, 64)]
theorem lw_r4 : ∀ q ∈ lw_privs_4, lw_okq q := List.forall_mem_cons.mpr ⟨lw_p48, List.forall_mem_cons.mpr ⟨lw_p49, List.forall_mem_cons.mpr ⟨lw_p50, List.forall_mem_cons.mpr ⟨lw_p51, List.forall_mem_cons.mpr ⟨lw_p52, List.forall_mem_cons.mpr ⟨lw_p53, List.forall_mem_cons.mpr ⟨lw_p54, List.forall_mem_cons.mpr ⟨lw_p55, List.forall_mem_cons.mpr ⟨lw_p56, List.forall_mem_cons.mpr ⟨lw_p57, List.forall_mem_cons.mpr ⟨lw_p58, List.forall_mem_cons.mpr ⟨lw_p59, List.forall_mem_cons.mpr ⟨lw_p60, List.forall_mem_cons.mpr ⟨lw_p61, List.forall_mem_cons.mpr ⟨lw_p62, List.forall_mem_cons.mpr ⟨lw_p63, fun _ h => absurd h List.not_mem_nil⟩⟩⟩⟩⟩⟩⟩⟩⟩⟩⟩⟩⟩⟩⟩⟩
theorem lw_p64 : lw_okq (⟨"StarTalesModel", "jumps", "(I)V"⟩, 64) := ⟨⟨by decide +kernel, by decide +kernel⟩, List.mem_of_getElem? (i := 1295) (by decide +kernel), List.mem_of_getElem? (i := 1634) (by decide +kernel), List.mem_of_getElem? (i := 1635) (by decide +kernel)⟩
theorem lw_p65 : lw_okq (⟨"StarTalesModel", "takes", "(I)Z"⟩, 64) := ⟨⟨by decide +kernel, by decide +kernel⟩, List.mem_of_getElem? (i := 1295) (by decide +kernel), List.mem_of_getElem? (i := 1638) (by decide +kernel), List.mem_of_getElem? (i := 1639) (by decide +kernel)⟩
theorem lw_p66 : lw_okq (⟨"StarTalesModel", "standsAt", "(I)I"⟩, 64) := ⟨⟨by decide +kernel, by decide +kernel⟩, List.mem_of_getElem? (i := 1295) (by decide +kernel), List.mem_of_getElem? (i := 1646) (by decide +kernel), List.mem_of_getElem? (i := 1647) (by decide +kernel)⟩
theorem lw_p67 : lw_okq (⟨"StarTalesModel", "seenFrom", "(I)I"⟩, 64) := ⟨⟨by decide +kernel, by decide +kernel⟩, List.mem_of_getElem? (i := 1295) (by decide +kernel), List.mem_of_getElem? (i := 1654) (by decide +kernel), List.mem_of_getElem? (i := 1655) (by decide +kernel)⟩
theorem lw_p68 : lw_okq (⟨"StarTalesModel", "isSeen", "(II)Z"⟩, 64) := ⟨⟨by decide +kernel, by decide +kernel⟩, List.mem_of_getElem? (i := 1295) (by decide +kernel), List.mem_of_getElem? (i := 1658) (by decide +kernel), List.mem_of_getElem? (i := 1659) (by decide +kernel)⟩
theorem lw_p69 : lw_okq (⟨"StarTalesModel", "hasClause", "(I)Z"⟩, 64) := ⟨⟨by decide +kernel, by decide +kernel⟩, List.mem_of_getElem? (i := 1295) (by decide +kernel), List.mem_of_getElem? (i := 1668) (by decide +kernel), List.mem_of_getElem? (i := 1669) (by decide +kernel)⟩
theorem lw_p70 : lw_okq (⟨"StarTalesModel", "feelsStar", "(I)V"⟩, 64) := ⟨⟨by decide +kernel, by decide +kernel⟩, List.mem_of_getElem? (i := 1295) (by decide +kernel), List.mem_of_getElem? (i := 1672) (by decide +kernel), List.mem_of_getElem? (i := 1673) (by decide +kernel)⟩
theorem lw_p71 : lw_okq (⟨"StarTalesModel", "feels", "()V"⟩, 64) := ⟨⟨by decide +kernel, by decide +kernel⟩, List.mem_of_getElem? (i := 1295) (by decide +kernel), List.mem_of_getElem? (i := 1676) (by decide +kernel), List.mem_of_getElem? (i := 1677) (by decide +kernel)⟩
theorem lw_p72 : lw_okq (⟨"StarTalesModel", "anyOf", "(I)Z"⟩, 64) := ⟨⟨by decide +kernel, by decide +kernel⟩, List.mem_of_getElem? (i := 1295) (by decide +kernel), List.mem_of_getElem? (i := 1683) (by decide +kernel), List.mem_of_getElem? (i := 1684) (by decide +kernel)⟩
theorem lw_p73 : lw_okq (⟨"StarTalesModel", "comesTo", "(II)I"⟩, 64) := ⟨⟨by decide +kernel, by decide +kernel⟩, List.mem_of_getElem? (i := 1295) (by decide +kernel), List.mem_of_getElem? (i := 1687) (by decide +kernel), List.mem_of_getElem? (i := 1688) (by decide +kernel)⟩
theorem lw_p74 : lw_okq (⟨"StarTalesModel", "looks", "(I)V"⟩, 64) := ⟨⟨by decide +kernel, by decide +kernel⟩, List.mem_of_getElem? (i := 1295) (by decide +kernel), List.mem_of_getElem? (i := 1698) (by decide +kernel), List.mem_of_getElem? (i := 1699) (by decide +kernel)⟩
theorem lw_p75 : lw_okq (⟨"StarTalesModel", "isDrawn", "(III)Z"⟩, 64) := ⟨⟨by decide +kernel, by decide +kernel⟩, List.mem_of_getElem? (i := 1295) (by decide +kernel), List.mem_of_getElem? (i := 1702) (by decide +kernel), List.mem_of_getElem? (i := 1703) (by decide +kernel)⟩
theorem lw_p76 : lw_okq (⟨"StarTalesModel", "laysFigures", "()V"⟩, 64) := ⟨⟨by decide +kernel, by decide +kernel⟩, List.mem_of_getElem? (i := 1295) (by decide +kernel), List.mem_of_getElem? (i := 1710) (by decide +kernel), List.mem_of_getElem? (i := 1711) (by decide +kernel)⟩
theorem lw_p77 : lw_okq (⟨"StarTalesModel", "figureOf", "(I)I"⟩, 64) := ⟨⟨by decide +kernel, by decide +kernel⟩, List.mem_of_getElem? (i := 1295) (by decide +kernel), List.mem_of_getElem? (i := 1714) (by decide +kernel), List.mem_of_getElem? (i := 1715) (by decide +kernel)⟩
theorem lw_p78 : lw_okq (⟨"StarTalesModel", "mostLegs", "()I"⟩, 64) := ⟨⟨by decide +kernel, by decide +kernel⟩, List.mem_of_getElem? (i := 1295) (by decide +kernel), List.mem_of_getElem? (i := 1724) (by decide +kernel), List.mem_of_getElem? (i := 1725) (by decide +kernel)⟩
theorem lw_p79 : lw_okq (⟨"StarTalesModel", "lineMany", "()I"⟩, 64) := ⟨⟨by decide +kernel, by decide +kernel⟩, List.mem_of_getElem? (i := 1295) (by decide +kernel), List.mem_of_getElem? (i := 1728) (by decide +kernel), List.mem_of_getElem? (i := 1729) (by decide +kernel)⟩
def lw_privs_5 : List (MethodName × Nat) := [(⟨"StarTalesModel", "jumps", "(I)V"⟩, 64), (⟨"StarTalesModel", "takes", "(I)Z"⟩, 64), (⟨"StarTalesModel", "standsAt", "(I)I"⟩, 64), (⟨"StarTalesModel", "seenFrom", "(I)I"⟩, 64), (⟨"StarTalesModel", "isSeen", "(II)Z"⟩, 64), (⟨"StarTalesModel", "hasClause", "(I)Z"⟩, 64), (⟨"StarTalesModel", "feelsStar", "(I)V"⟩, 64), (⟨"StarTalesModel", "feels", "()V"⟩, 64), (⟨"StarTalesModel", "anyOf", "(I)Z"⟩, 64), (⟨"StarTalesModel", "comesTo", "(II)I"⟩, 64), (⟨"StarTalesModel", "looks", "(I)V"⟩, 64), (⟨"StarTalesModel", "isDrawn", "(III)Z"⟩, 64), (⟨"StarTalesModel", "laysFigures", "()V"⟩, 64), (⟨"StarTalesModel", "figureOf", "(I)I"⟩, 64), (⟨"StarTalesModel", "mostLegs", "()I"⟩, 64), (⟨"StarTalesModel", "lineMany", "()I"⟩, 64)]
theorem lw_r5 : ∀ q ∈ lw_privs_5, lw_okq q := List.forall_mem_cons.mpr ⟨lw_p64, List.forall_mem_cons.mpr ⟨lw_p65, List.forall_mem_cons.mpr ⟨lw_p66, List.forall_mem_cons.mpr ⟨lw_p67, List.forall_mem_cons.mpr ⟨lw_p68, List.forall_mem_cons.mpr ⟨lw_p69, List.forall_mem_cons.mpr ⟨lw_p70, List.forall_mem_cons.mpr ⟨lw_p71, List.forall_mem_cons.mpr ⟨lw_p72, List.forall_mem_cons.mpr ⟨lw_p73, List.forall_mem_cons.mpr ⟨lw_p74, List.forall_mem_cons.mpr ⟨lw_p75, List.forall_mem_cons.mpr ⟨lw_p76, List.forall_mem_cons.mpr ⟨lw_p77, List.forall_mem_cons.mpr ⟨lw_p78, List.forall_mem_cons.mpr ⟨lw_p79, fun _ h => absurd h List.not_mem_nil⟩⟩⟩⟩⟩⟩⟩⟩⟩⟩⟩⟩⟩⟩⟩⟩
theorem lw_p80 : lw_okq (⟨"StarTalesModel", "holding", "()I"⟩, 64) := ⟨⟨by decide +kernel, by decide +kernel⟩, List.mem_of_getElem? (i := 1295) (by decide +kernel), List.mem_of_getElem? (i := 1732) (by decide +kernel), List.mem_of_getElem? (i := 1733) (by decide +kernel)⟩
theorem lw_p81 : lw_okq (⟨"StarTalesModel", "readsTaleLine", "()Z"⟩, 64) := ⟨⟨by decide +kernel, by decide +kernel⟩, List.mem_of_getElem? (i := 1295) (by decide +kernel), List.mem_of_getElem? (i := 1744) (by decide +kernel), List.mem_of_getElem? (i := 1745) (by decide +kernel)⟩
theorem lw_p82 : lw_okq (⟨"StarTalesModel", "isName", "()Z"⟩, 64) := ⟨⟨by decide +kernel, by decide +kernel⟩, List.mem_of_getElem? (i := 1295) (by decide +kernel), List.mem_of_getElem? (i := 1748) (by decide +kernel), List.mem_of_getElem? (i := 1749) (by decide +kernel)⟩
theorem lw_p83 : lw_okq (⟨"StarTalesModel", "isTwice", "(II)Z"⟩, 64) := ⟨⟨by decide +kernel, by decide +kernel⟩, List.mem_of_getElem? (i := 1295) (by decide +kernel), List.mem_of_getElem? (i := 1752) (by decide +kernel), List.mem_of_getElem? (i := 1753) (by decide +kernel)⟩
theorem lw_p84 : lw_okq (⟨"StarTalesModel", "ways", "(I)I"⟩, 64) := ⟨⟨by decide +kernel, by decide +kernel⟩, List.mem_of_getElem? (i := 1295) (by decide +kernel), List.mem_of_getElem? (i := 1760) (by decide +kernel), List.mem_of_getElem? (i := 1761) (by decide +kernel)⟩
theorem lw_p85 : lw_okq (⟨"StarTalesModel", "laysNames", "()V"⟩, 64) := ⟨⟨by decide +kernel, by decide +kernel⟩, List.mem_of_getElem? (i := 1295) (by decide +kernel), List.mem_of_getElem? (i := 1764) (by decide +kernel), List.mem_of_getElem? (i := 1765) (by decide +kernel)⟩
theorem lw_p86 : lw_okq (⟨"StarTalesModel", "canBe", "(II)Z"⟩, 64) := ⟨⟨by decide +kernel, by decide +kernel⟩, List.mem_of_getElem? (i := 1295) (by decide +kernel), List.mem_of_getElem? (i := 1768) (by decide +kernel), List.mem_of_getElem? (i := 1769) (by decide +kernel)⟩
theorem lw_p87 : lw_okq (⟨"StarTalesModel", "canBeTold", "(I)Z"⟩, 64) := ⟨⟨by decide +kernel, by decide +kernel⟩, List.mem_of_getElem? (i := 1295) (by decide +kernel), List.mem_of_getElem? (i := 1776) (by decide +kernel), List.mem_of_getElem? (i := 1777) (by decide +kernel)⟩
theorem lw_p88 : lw_okq (⟨"StarTalesModel", "laysPatches", "()V"⟩, 64) := ⟨⟨by decide +kernel, by decide +kernel⟩, List.mem_of_getElem? (i := 1295) (by decide +kernel), List.mem_of_getElem? (i := 1788) (by decide +kernel), List.mem_of_getElem? (i := 1789) (by decide +kernel)⟩
theorem lw_p89 : lw_okq (⟨"StarTalesModel", "laysPatch", "(I)V"⟩, 64) := ⟨⟨by decide +kernel, by decide +kernel⟩, List.mem_of_getElem? (i := 1295) (by decide +kernel), List.mem_of_getElem? (i := 1792) (by decide +kernel), List.mem_of_getElem? (i := 1793) (by decide +kernel)⟩
theorem lw_p90 : lw_okq (⟨"StarTalesModel", "partOf", "(II)I"⟩, 64) := ⟨⟨by decide +kernel, by decide +kernel⟩, List.mem_of_getElem? (i := 1295) (by decide +kernel), List.mem_of_getElem? (i := 1796) (by decide +kernel), List.mem_of_getElem? (i := 1797) (by decide +kernel)⟩
theorem lw_p91 : lw_okq (⟨"StarTalesModel", "alikeFrom", "(II)I"⟩, 64) := ⟨⟨by decide +kernel, by decide +kernel⟩, List.mem_of_getElem? (i := 1295) (by decide +kernel), List.mem_of_getElem? (i := 1803) (by decide +kernel), List.mem_of_getElem? (i := 1804) (by decide +kernel)⟩
theorem lw_p92 : lw_okq (⟨"StarTalesModel", "areAlike", "(II)Z"⟩, 64) := ⟨⟨by decide +kernel, by decide +kernel⟩, List.mem_of_getElem? (i := 1295) (by decide +kernel), List.mem_of_getElem? (i := 1807) (by decide +kernel), List.mem_of_getElem? (i := 1808) (by decide +kernel)⟩
theorem lw_p93 : lw_okq (⟨"StarTalesModel", "hasParts", "(II)Z"⟩, 64) := ⟨⟨by decide +kernel, by decide +kernel⟩, List.mem_of_getElem? (i := 1295) (by decide +kernel), List.mem_of_getElem? (i := 1816) (by decide +kernel), List.mem_of_getElem? (i := 1817) (by decide +kernel)⟩
theorem lw_p94 : lw_okq (⟨"StarTalesModel", "takesPlaces", "(I)Z"⟩, 64) := ⟨⟨by decide +kernel, by decide +kernel⟩, List.mem_of_getElem? (i := 1295) (by decide +kernel), List.mem_of_getElem? (i := 1824) (by decide +kernel), List.mem_of_getElem? (i := 1825) (by decide +kernel)⟩
theorem lw_p95 : lw_okq (⟨"StarTalesModel", "leastOf", "(I)I"⟩, 64) := ⟨⟨by decide +kernel, by decide +kernel⟩, List.mem_of_getElem? (i := 1295) (by decide +kernel), List.mem_of_getElem? (i := 1828) (by decide +kernel), List.mem_of_getElem? (i := 1829) (by decide +kernel)⟩
def lw_privs_6 : List (MethodName × Nat) := [(⟨"StarTalesModel", "holding", "()I"⟩, 64), (⟨"StarTalesModel", "readsTaleLine", "()Z"⟩, 64), (⟨"StarTalesModel", "isName", "()Z"⟩, 64), (⟨"StarTalesModel", "isTwice", "(II)Z"⟩, 64), (⟨"StarTalesModel", "ways", "(I)I"⟩, 64), (⟨"StarTalesModel", "laysNames", "()V"⟩, 64), (⟨"StarTalesModel", "canBe", "(II)Z"⟩, 64), (⟨"StarTalesModel", "canBeTold", "(I)Z"⟩, 64), (⟨"StarTalesModel", "laysPatches", "()V"⟩, 64), (⟨"StarTalesModel", "laysPatch", "(I)V"⟩, 64), (⟨"StarTalesModel", "partOf", "(II)I"⟩, 64), (⟨"StarTalesModel", "alikeFrom", "(II)I"⟩, 64), (⟨"StarTalesModel", "areAlike", "(II)Z"⟩, 64), (⟨"StarTalesModel", "hasParts", "(II)Z"⟩, 64), (⟨"StarTalesModel", "takesPlaces", "(I)Z"⟩, 64), (⟨"StarTalesModel", "leastOf", "(I)I"⟩, 64)]
theorem lw_r6 : ∀ q ∈ lw_privs_6, lw_okq q := List.forall_mem_cons.mpr ⟨lw_p80, List.forall_mem_cons.mpr ⟨lw_p81, List.forall_mem_cons.mpr ⟨lw_p82, List.forall_mem_cons.mpr ⟨lw_p83, List.forall_mem_cons.mpr ⟨lw_p84, List.forall_mem_cons.mpr ⟨lw_p85, List.forall_mem_cons.mpr ⟨lw_p86, List.forall_mem_cons.mpr ⟨lw_p87, List.forall_mem_cons.mpr ⟨lw_p88, List.forall_mem_cons.mpr ⟨lw_p89, List.forall_mem_cons.mpr ⟨lw_p90, List.forall_mem_cons.mpr ⟨lw_p91, List.forall_mem_cons.mpr ⟨lw_p92, List.forall_mem_cons.mpr ⟨lw_p93, List.forall_mem_cons.mpr ⟨lw_p94, List.forall_mem_cons.mpr ⟨lw_p95, fun _ h => absurd h List.not_mem_nil⟩⟩⟩⟩⟩⟩⟩⟩⟩⟩⟩⟩⟩⟩⟩⟩
theorem lw_p96 : lw_okq (⟨"StarTalesModel", "tellsApart", "(I)Z"⟩, 64) := ⟨⟨by decide +kernel, by decide +kernel⟩, List.mem_of_getElem? (i := 1295) (by decide +kernel), List.mem_of_getElem? (i := 1833) (by decide +kernel), List.mem_of_getElem? (i := 1834) (by decide +kernel)⟩
theorem lw_p97 : lw_okq (⟨"StarTalesModel", "byLaw", "(II)I"⟩, 64) := ⟨⟨by decide +kernel, by decide +kernel⟩, List.mem_of_getElem? (i := 1295) (by decide +kernel), List.mem_of_getElem? (i := 1841) (by decide +kernel), List.mem_of_getElem? (i := 1842) (by decide +kernel)⟩
theorem lw_p98 : lw_okq (⟨"StarTalesModel", "steers", "(IIZ)V"⟩, 64) := ⟨⟨by decide +kernel, by decide +kernel⟩, List.mem_of_getElem? (i := 1295) (by decide +kernel), List.mem_of_getElem? (i := 1849) (by decide +kernel), List.mem_of_getElem? (i := 1850) (by decide +kernel)⟩
theorem lw_p99 : lw_okq (⟨"StarTalesModel", "drawsClouds", "()V"⟩, 64) := ⟨⟨by decide +kernel, by decide +kernel⟩, List.mem_of_getElem? (i := 1295) (by decide +kernel), List.mem_of_getElem? (i := 1853) (by decide +kernel), List.mem_of_getElem? (i := 1854) (by decide +kernel)⟩
theorem lw_p100 : lw_okq (⟨"StarTalesModel", "steersFrom", "(II)I"⟩, 64) := ⟨⟨by decide +kernel, by decide +kernel⟩, List.mem_of_getElem? (i := 1295) (by decide +kernel), List.mem_of_getElem? (i := 1858) (by decide +kernel), List.mem_of_getElem? (i := 1859) (by decide +kernel)⟩
theorem lw_p101 : lw_okq (⟨"StarTalesModel", "passes", "()V"⟩, 64) := ⟨⟨by decide +kernel, by decide +kernel⟩, List.mem_of_getElem? (i := 1295) (by decide +kernel), List.mem_of_getElem? (i := 1865) (by decide +kernel), List.mem_of_getElem? (i := 1866) (by decide +kernel)⟩
theorem lw_p102 : lw_okq (⟨"StarTalesModel", "walks", "()V"⟩, 64) := ⟨⟨by decide +kernel, by decide +kernel⟩, List.mem_of_getElem? (i := 1295) (by decide +kernel), List.mem_of_getElem? (i := 1869) (by decide +kernel), List.mem_of_getElem? (i := 1870) (by decide +kernel)⟩
theorem lw_p103 : lw_okq (⟨"StarTalesModel", "begins", "()V"⟩, 64) := ⟨⟨by decide +kernel, by decide +kernel⟩, List.mem_of_getElem? (i := 1295) (by decide +kernel), List.mem_of_getElem? (i := 1884) (by decide +kernel), List.mem_of_getElem? (i := 1885) (by decide +kernel)⟩
theorem lw_p104 : lw_okq (⟨"StarTalesModel", "again", "()V"⟩, 64) := ⟨⟨by decide +kernel, by decide +kernel⟩, List.mem_of_getElem? (i := 1295) (by decide +kernel), List.mem_of_getElem? (i := 1891) (by decide +kernel), List.mem_of_getElem? (i := 1892) (by decide +kernel)⟩
theorem lw_p105 : lw_okq (⟨"StarTalesModel", "sails", "(I[I)V"⟩, 64) := ⟨⟨by decide +kernel, by decide +kernel⟩, List.mem_of_getElem? (i := 1295) (by decide +kernel), List.mem_of_getElem? (i := 1899) (by decide +kernel), List.mem_of_getElem? (i := 1900) (by decide +kernel)⟩
theorem lw_p106 : lw_okq (⟨"StarTalesModel", "comesBy", "(IIII)I"⟩, 64) := ⟨⟨by decide +kernel, by decide +kernel⟩, List.mem_of_getElem? (i := 1295) (by decide +kernel), List.mem_of_getElem? (i := 1910) (by decide +kernel), List.mem_of_getElem? (i := 1911) (by decide +kernel)⟩
theorem lw_p107 : lw_okq (⟨"StarTalesModel", "laysTwo", "(III)Z"⟩, 64) := ⟨⟨by decide +kernel, by decide +kernel⟩, List.mem_of_getElem? (i := 1295) (by decide +kernel), List.mem_of_getElem? (i := 1918) (by decide +kernel), List.mem_of_getElem? (i := 1919) (by decide +kernel)⟩
theorem lw_p108 : lw_okq (⟨"StarTalesModel", "comesByTwo", "(IIIIII)Z"⟩, 64) := ⟨⟨by decide +kernel, by decide +kernel⟩, List.mem_of_getElem? (i := 1295) (by decide +kernel), List.mem_of_getElem? (i := 1922) (by decide +kernel), List.mem_of_getElem? (i := 1923) (by decide +kernel)⟩
theorem lw_p109 : lw_okq (⟨"StarTalesModel", "looksBoth", "(II)V"⟩, 64) := ⟨⟨by decide +kernel, by decide +kernel⟩, List.mem_of_getElem? (i := 1295) (by decide +kernel), List.mem_of_getElem? (i := 1930) (by decide +kernel), List.mem_of_getElem? (i := 1931) (by decide +kernel)⟩
theorem lw_p110 : lw_okq (⟨"StarTalesModel", "leastClouds", "(III)I"⟩, 64) := ⟨⟨by decide +kernel, by decide +kernel⟩, List.mem_of_getElem? (i := 1295) (by decide +kernel), List.mem_of_getElem? (i := 1938) (by decide +kernel), List.mem_of_getElem? (i := 1939) (by decide +kernel)⟩
theorem lw_p111 : lw_okq (⟨"StarTalesModel", "takesLog", "(I)Z"⟩, 64) := ⟨⟨by decide +kernel, by decide +kernel⟩, List.mem_of_getElem? (i := 1295) (by decide +kernel), List.mem_of_getElem? (i := 1946) (by decide +kernel), List.mem_of_getElem? (i := 1947) (by decide +kernel)⟩
def lw_privs_7 : List (MethodName × Nat) := [(⟨"StarTalesModel", "tellsApart", "(I)Z"⟩, 64), (⟨"StarTalesModel", "byLaw", "(II)I"⟩, 64), (⟨"StarTalesModel", "steers", "(IIZ)V"⟩, 64), (⟨"StarTalesModel", "drawsClouds", "()V"⟩, 64), (⟨"StarTalesModel", "steersFrom", "(II)I"⟩, 64), (⟨"StarTalesModel", "passes", "()V"⟩, 64), (⟨"StarTalesModel", "walks", "()V"⟩, 64), (⟨"StarTalesModel", "begins", "()V"⟩, 64), (⟨"StarTalesModel", "again", "()V"⟩, 64), (⟨"StarTalesModel", "sails", "(I[I)V"⟩, 64), (⟨"StarTalesModel", "comesBy", "(IIII)I"⟩, 64), (⟨"StarTalesModel", "laysTwo", "(III)Z"⟩, 64), (⟨"StarTalesModel", "comesByTwo", "(IIIIII)Z"⟩, 64), (⟨"StarTalesModel", "looksBoth", "(II)V"⟩, 64), (⟨"StarTalesModel", "leastClouds", "(III)I"⟩, 64), (⟨"StarTalesModel", "takesLog", "(I)Z"⟩, 64)]
theorem lw_r7 : ∀ q ∈ lw_privs_7, lw_okq q := List.forall_mem_cons.mpr ⟨lw_p96, List.forall_mem_cons.mpr ⟨lw_p97, List.forall_mem_cons.mpr ⟨lw_p98, List.forall_mem_cons.mpr ⟨lw_p99, List.forall_mem_cons.mpr ⟨lw_p100, List.forall_mem_cons.mpr ⟨lw_p101, List.forall_mem_cons.mpr ⟨lw_p102, List.forall_mem_cons.mpr ⟨lw_p103, List.forall_mem_cons.mpr ⟨lw_p104, List.forall_mem_cons.mpr ⟨lw_p105, List.forall_mem_cons.mpr ⟨lw_p106, List.forall_mem_cons.mpr ⟨lw_p107, List.forall_mem_cons.mpr ⟨lw_p108, List.forall_mem_cons.mpr ⟨lw_p109, List.forall_mem_cons.mpr ⟨lw_p110, List.forall_mem_cons.mpr ⟨lw_p111, fun _ h => absurd h List.not_mem_nil⟩⟩⟩⟩⟩⟩⟩⟩⟩⟩⟩⟩⟩⟩⟩⟩
theorem lw_p112 : lw_okq (⟨"StarTalesModel", "tapeNumber", "(I)I"⟩, 64) := ⟨⟨by decide +kernel, by decide +kernel⟩, List.mem_of_getElem? (i := 1295) (by decide +kernel), List.mem_of_getElem? (i := 1975) (by decide +kernel), List.mem_of_getElem? (i := 1976) (by decide +kernel)⟩
theorem lw_p113 : lw_okq (⟨"StarTalesModel", "landMany", "()I"⟩, 64) := ⟨⟨by decide +kernel, by decide +kernel⟩, List.mem_of_getElem? (i := 1295) (by decide +kernel), List.mem_of_getElem? (i := 1983) (by decide +kernel), List.mem_of_getElem? (i := 1984) (by decide +kernel)⟩
def lw_privs_8 : List (MethodName × Nat) := [(⟨"StarTalesModel", "tapeNumber", "(I)I"⟩, 64), (⟨"StarTalesModel", "landMany", "()I"⟩, 64)]
theorem lw_r8 : ∀ q ∈ lw_privs_8, lw_okq q := List.forall_mem_cons.mpr ⟨lw_p112, List.forall_mem_cons.mpr ⟨lw_p113, fun _ h => absurd h List.not_mem_nil⟩⟩
def lw_privs : List (MethodName × Nat) := lw_privs_1 ++ (lw_privs_2 ++ (lw_privs_3 ++ (lw_privs_4 ++ (lw_privs_5 ++ (lw_privs_6 ++ (lw_privs_7 ++ (lw_privs_8)))))))
def lw_tbl : List Cond := k2_sels lw_privs ++ tables_1
theorem lw_privs_ok : ∀ q ∈ lw_privs, lw_okq q := by
  show ∀ q ∈ lw_privs_1 ++ (lw_privs_2 ++ (lw_privs_3 ++ (lw_privs_4 ++ (lw_privs_5 ++ (lw_privs_6 ++ (lw_privs_7 ++ (lw_privs_8))))))), lw_okq q
  exact List.forall_mem_append.mpr ⟨lw_r1, List.forall_mem_append.mpr ⟨lw_r2, List.forall_mem_append.mpr ⟨lw_r3, List.forall_mem_append.mpr ⟨lw_r4, List.forall_mem_append.mpr ⟨lw_r5, List.forall_mem_append.mpr ⟨lw_r6, List.forall_mem_append.mpr ⟨lw_r7, lw_r8⟩⟩⟩⟩⟩⟩⟩
end
