/-! 94b.cons2, 94c.head, 95a.types, 95b.sigs, 95c.runs, 95d.start, 96a.rep, 96b.whole, 96c.rep2, 96d.first -/
section
/-! A constructor's contract. -/
/-- places that are known at the end -/
def zc_nw (cl : List vw_C) (ci : Nat) (st : zS) (nw : List (zLoc × zV)) : Bool := nw.all fun q => (Nat.beq q.1.1 0 && Nat.beq q.1.2.1 ci) && ((match cl[ci]? with
  | some r => Nat.blt q.1.2.2.1 r.2.2
  | none => false) && (match q.1.2.2.2, z_ffind st 0 ci q.1.2.2.1, q.2 with
  | some e, some w, .inl r => (z_E st).any (fun t => Nat.beq t.1 w && (match z_get (z_V st) t.2.1, z_get (z_V st) t.2.2 with
    | some (.inl i), some (.inl v) => (z_ile (e : Nat) i.1 && z_ile i.2 (e : Nat)) && (z_ile r.1 v.1 && z_ile v.2 r.2)
    | _, _ => false))
  | _, _, _ => false))
theorem zc_nw_ok {OB : Nat → Nat} {D : va_G} {DA : Nat → ClassId} {cl : List vw_C} {TY : List zTy} {PHI : List (List Nat)} {sz : Nat} {raw : Option Nat} {pu : Bool} {T0 T : zTp} {H0 H : Heap} {env0 env : List Value} {nL : Nat} {st : zS} {locs : List Loc} {ls : Array Slot} {stk : List Value} {ci a : Nat} {nw : List (zLoc × zV)} (h : zc_nw cl ci st nw = true) (hs : z_sat OB D DA cl TY PHI sz raw pu T0 H0 env0 nL st T H locs env ls stk) (h0 : env[0]? = some (.ref a)) :
    ∀ q ∈ nw, ∃ (x : Int32) (r : zR), (q.1.1 = 0 ∧ z_lv D cl H (some (.ref a)) q.1 (.int x)) ∧ q.2 = .inl r ∧ z_in r x := by
  intro q hq
  have h1 := List.all_eq_true.mp h q hq
  rw [Bool.and_eq_true, Bool.and_eq_true, Bool.and_eq_true] at h1
  obtain ⟨⟨c1, c2⟩, c3, c4⟩ := h1
  split at c3
  · rename_i r0 hr0
    split at c4
    · rename_i e w r he hw hr
      obtain ⟨t, ht, ht2⟩ := List.any_eq_true.mp c4
      rw [Bool.and_eq_true] at ht2
      obtain ⟨d1, d2⟩ := ht2
      split at d2
      · rename_i i v hi hv
        simp only [Bool.and_eq_true] at d2
        obtain ⟨⟨i1, i2⟩, v1, v2⟩ := d2
        obtain ⟨a2, w2, e1, e2, e3⟩ := z_ffind_ok hw hs
        rw [h0] at e1
        cases e1
        obtain ⟨a3, x, w3, f1, f2, f3, f4, f5⟩ := hs.2.2.2.2.2.2.1 t ht
        rw [z_beq d1, e2] at f1
        cases f1
        obtain ⟨xi, g1, xi2, rfl, g2⟩ := z_get_ok hs.2.2.2.2.1 hi
        rw [f2] at g1
        cases g1
        obtain ⟨xv, k1, xv2, rfl, k2⟩ := z_get_ok hs.2.2.2.2.1 hv
        rw [f4] at k1
        cases k1
        have j1 := z_ile_ok i1
        have j2 := z_ile_ok i2
        have j3 := g2.1
        have j4 := g2.2
        have ex : x.toInt.toNat = e := by omega
        rw [ex] at f5
        refine ⟨xv2, r, ⟨z_beq c1, a, r0, rfl, by rw [z_beq c2]; exact hr0, z_blt c3, ?_⟩, hr, z_in_le (z_ile_ok v1) (z_ile_ok v2) k2⟩
        rw [he, z_beq c2]
        exact ⟨a3, e3, f5⟩
      · cases d2
    · cases c4
  · cases c3
def zc_chk (hk : zHk) (TY : List zTy) (PHI : List (List Nat)) (cl : List vw_C) (FT : Nat → Nat → FieldType) (MT : List zM) (SG : List (Nat × zSig)) (RO PHS : List Nat) (mm : zM) (g : zSig) (ce : zCe) (f : List (Nat × Nat)) (ci tau : Nat) (nw : List (zLoc × zV)) : Bool := match z_ent TY cl FT mm.2.2.1 g with
  | some (st0, _) => z_run (z_hst hk (z_stp TY PHI cl FT MT SG RO PHS (z_room g) (g_pur g) mm.2.2.1 ce.1 mm.2.1 (fun st => zc_fin TY cl f ci tau (g_mk g) st && zc_nw cl ci st nw) (fun _ => false))) (z_cut [] (z_n st0) none) ce.2.2 0 st0
  | none => false
abbrev zc_g (k0 : zV) (ci tau : Nat) (nw : List (zLoc × zV)) (mk rm : Nat × Nat) : zSig := ([k0], some ci, [], [([(0, .inr (.inl tau))], none, [], nw)], false, mk, rm, 0)
section ZCONS2
variable {cl : List vw_C} {FT : Nat → Nat → FieldType} {TY : List zTy} {PHI : List (List Nat)} {KXf : (Nat → Nat) → Nat → State → Heap → Prop} {TBL : List Cond} {MT : List zM} {SG : List (Nat × zSig)} {RO PHS : List Nat} {hk : zHk} {mm : zM} {ce : zCe} {f : List (Nat × Nat)} {ci tau : Nat} {k0 : zV} {nw : List (zLoc × zV)} {mk rm : Nat × Nat}
theorem zc_OK (hpl : plainFor mm.1 = true) (hKS : z_KS (Cond.code mm.1 mm.2.1 mm.2.2.1 mm.2.2.2.1 :: TBL) TBL cl FT mm.1.cls MT ce.1) (hin : ∀ j, k_IN ce.1 = some j → mm.1.name = "<init>") (hXp : ∀ OB sz, z_KXp sz (KXf OB sz)) (hPH : ∀ a ∈ PHS, z_phok TY PHI a = true)
    (hok : ∀ g ∈ (k_CA ce.1).filterMap (fun a => SG[a.2]?), ∀ m2, MT[g.1]? = some m2 → z_OK TBL cl FT TY PHI KXf m2.1 m2.2.1 m2.2.2.1 m2.2.2.2.1 g.2) (hH : z_hok TBL cl TY PHI KXf mm (zc_g k0 ci tau nw mk rm) hk) (hret : mm.2.2.2.1 = none) (hf : zc_okf TY f = true) (h0 : zc_chk hk TY PHI cl FT MT SG RO PHS mm (zc_g k0 ci tau nw mk rm) ce f ci tau nw = true) : z_OK TBL cl FT TY PHI KXf mm.1 mm.2.1 mm.2.2.1 mm.2.2.2.1 (zc_g k0 ci tau nw mk rm) := by
  intro l OB D DA sz T
  refine va_MetF (cc := mm.2.1) (maxL := mm.2.2.1) (ret := mm.2.2.2.1) hpl rfl ?_
  intro p e s m args below meth c s₁ B hml hPre
  unfold zc_chk at h0
  split at h0
  · rename_i st0 ws hent
    obtain ⟨vals, e0, hrest⟩ := hPre
    subst e0
    obtain ⟨hl, h1, h2, h3, h4, h5, hsz, hK, hX⟩ := hrest
    obtain ⟨a, r0, V0, a1, a2, a3, a4, a5, a6⟩ := h2 ci rfl
    have hPre2 : z_Pre OB D DA cl FT TY sz (KXf OB sz) (zc_g k0 ci tau nw mk rm) (fun _ => none) vals.toArray s := by
      refine ⟨vals, rfl, hl, fun j c hj hor => ?_, fun ci2 hci2 => ?_, fun q hq => absurd hq List.not_mem_nil, ⟨fun a t ht => absurd ht (by simp), fun a t ci fl ha => absurd ha (by simp), fun a a' t t' ci fl fl' ha => absurd ha (by simp)⟩, fun a t ht => absurd ht (by simp), hsz, hK, hX⟩
      · rcases hor with h | h
        · cases h
        · cases j with
          | zero => exact absurd rfl h
          | succ j =>
            have hj : ([k0] : List zV)[j + 1]? = some c := hj
            simp at hj
      · have e : ci = ci2 := Option.some.inj hci2
        subst e
        exact ⟨a, r0, V0, a1, rfl, a3, a4, a5, a6⟩
    obtain ⟨hcat, hn, env, raw, hraw, hsat, hlen, hvals, hwl, hws⟩ := z_ent_ok (pu := false) (PHI := PHI) hPre2 hent
    have er : raw = some a := (hraw a).mpr ⟨rfl, a1⟩
    subst er
    have hts : ∀ w ∈ (Cond.code mm.1 mm.2.1 mm.2.2.1 mm.2.2.2.1 :: TBL), w.before vals.toArray s = true := atoms_spec (ws := Cond.code mm.1 mm.2.1 mm.2.2.1 mm.2.2.2.1 :: TBL) B.pre
    have hown : s.vm.findClass mm.1.cls = some m.cls := findClass_of_methodNamed B.named
    have hD : z_Dy s m vals.toArray (Cond.code mm.1 mm.2.1 mm.2.2.1 mm.2.2.2.1 :: TBL) mm.1.cls D cl DA (z_tys DA) := ⟨hts, hown, hK, z_tys_ok DA⟩
    have hname : meth.name = mm.1.name := (name_of_methodNamed B.named B.method).1
    rw [lg_entry_eq]
    have he0 : env[0]? = some (.ref a) := hvals 0 _ a1
    have hpos : 0 < z_n st0 := by rw [← hsat.1]; exact (List.getElem?_eq_some_iff.mp he0).1
    refine W.widen (Nat.zero_le _) (Nat.zero_le _) (z_runs (CU := []) (ng := z_n st0) (ends := fun env2 : List Value => env2[0]? = some (Value.ref a)) (fun env1 env2 he hgh => (hgh 0 hpos).trans he) (fun env1 pc st L he hL hall => ?_) (stp := z_hst hk (z_stp TY PHI cl FT MT SG RO PHS (z_room (zc_g k0 ci tau nw mk rm)) false mm.2.2.1 ce.1 mm.2.1 (fun st => zc_fin TY cl f ci tau mk st && zc_nw cl ci st nw) (fun _ => false))) (fuel := ce.2.2) rfl h0 he0 (by rw [hsat.1]; exact Nat.le_refl _) hsat)
    unfold z_hst at hL
    split at hL
    · rename_i L2 hL2
      cases hL
      exact hH p l e s m vals.toArray below meth c _ OB D DA sz (some a) (fun _ => none) s.heap env1 (fun pc st => ∀ T2 H2 locs2 env2 ls2 stk2, z_sat OB D DA cl TY PHI sz (some a) false (fun _ => none) s.heap env1 mm.2.2.1 st T2 H2 locs2 env2 ls2 stk2 → W p l e (z_room (zc_g k0 ci tau nw mk rm)) s m vals.toArray below meth c H2 locs2 (z_C st).1 (z_C st).2 (MQ below (z_Post OB D DA cl TY PHI sz (zc_g k0 ci tau nw mk rm) T) vals.toArray s mk.1 mk.2 (fun q => sz ≤ q)) (F0 m pc ls2 stk2)) (fun _ _ => Iff.rfl) B.exec B.bytes hml hD hsz hX pc st L hL2 hall
    refine z_stp_ok (good := fun pc st => ∀ T2 H2 locs2 env2 ls2 stk2, z_sat OB D DA cl TY PHI sz (some a) false (fun _ => none) s.heap env1 mm.2.2.1 st T2 H2 locs2 env2 ls2 stk2 → W p l e (z_room (zc_g k0 ci tau nw mk rm)) s m vals.toArray below meth c H2 locs2 (z_C st).1 (z_C st).2 (MQ below (z_Post OB D DA cl TY PHI sz (zc_g k0 ci tau nw mk rm) T) vals.toArray s mk.1 mk.2 (fun q => sz ≤ q)) (F0 m pc ls2 stk2)) (fun _ _ => Iff.rfl) B.exec B.bytes hml hD hsz (hXp OB sz) hX hKS (fun j hj => by rw [hname]; exact hin j hj) hPH hok (fun pc st hd hfin => ?_) (fun pc st hd hfin => by cases hfin) hL hall
    intro T2 H2 locs2 env2 ls2 stk2 hs
    have he2 : env2[0]? = some (.ref a) := by
      obtain ⟨w, hw⟩ := hs.2.1
      rw [hw]; exact z_app he
    rw [Bool.and_eq_true] at hfin
    obtain ⟨hfin, hnw⟩ := hfin
    have hht := zc_ht hf h4 a2 hs he2 hfin
    have hfin2 := hfin
    unfold zc_fin at hfin2
    simp only [Bool.and_eq_true] at hfin2
    obtain ⟨⟨⟨g1, g2, g3⟩, g4, -⟩, -⟩ := hfin2
    obtain ⟨q0, hq0, hq1⟩ := List.any_eq_true.mp g4
    rw [Bool.and_eq_true] at hq1
    obtain ⟨b2, x1, x2, x3, -⟩ := z_fx_in hs.2.2.2.2.2.2.2.2.1 q0 hq0
    rw [z_beq hq1.1, he2] at x1
    have ea : a = b2 := by cases x1; rfl
    subst ea
    have hm := hs.2.2.2.2.2.2.2.2.2
    have hk2 := hs.2.2.2.1
    rw [List.isEmpty_iff.mp g1] at hk2
    have hk2 : stk2 = [] := hk2
    subst hk2
    have hr : meth.sig.returnType = none := B.returns.trans hret
    have lt : ∀ q t, T q = some t → q < s.heap.size ∧ q ≠ a := by
      intro q t ht
      obtain ⟨ty, y1, y2⟩ := h4.1 q t ht
      exact ⟨z_cell_lt y2, fun e => by rw [e, a2] at ht; cases ht⟩
    refine W.widen (Nat.le_of_ble_eq_true g2) (Nat.le_of_ble_eq_true g3) (W.vret B.exec B.bytes hr (fun t ht _ => ?_) (fun q hq => hm.2.2.2.2.2.2 q hq) hd B.notSynchronized)
    refine ⟨vals, none, zc_T TY f a tau T T2, rfl, rfl, by rw [ht]; exact hht, fun q u hq => ?_, fun q u hq => zc_T_old (lt q u hq).2 hq, fun q hq1 hq2 hq3 => ?_, by rw [ht]; exact hm.2.2.2.2.1, fun q hq1 hq2 => by rw [ht]; exact hm.2.2.2.2.2.1 q hq1 hq2, ⟨fun h => (by cases h), fun q u c fl hq hty => ⟨u, fl, zc_T_old (lt q u hq).2 hq, hty, fun r k w y1 y2 y3 y4 => ?_⟩⟩, _, List.mem_singleton.mpr rfl, fun q hq => ?_, trivial, fun q hq => ?_, fun i q h hi => ?_⟩
    · rcases zc_T_inv hq with ⟨rfl, rfl⟩ | ⟨e, g⟩ | ⟨e, g, u2, o, g2, g3, rfl⟩
      · exact a3
      · exact h5 q u g
      · exact hm.2.1.1 q u2 g2
    · have hne : q ≠ a := fun e => hq3 rfl (by rw [e]; exact a1)
      have hun := hm.2.2.2.1 q hq1 rfl (fun e => by cases e; exact hne rfl)
      refine ⟨?_, by rw [ht]; exact hun.2⟩
      cases hT : zc_T TY f a tau T T2 q with
      | none => rfl
      | some u =>
        rcases zc_T_inv hT with ⟨e, -⟩ | ⟨-, g⟩ | ⟨-, -, u2, o, g2, -⟩
        · exact absurd e hne
        · rw [hq2] at g; cases g
        · rw [hun.1] at g2; cases g2
    · obtain ⟨l1, l2⟩ := lt q u hq
      have hun := hm.2.2.2.1 q l1 rfl (fun e => by cases e; exact l2 rfl)
      obtain ⟨cell, c1, c2⟩ := y4
      exact ⟨cell, by rw [ht, hun.2]; exact c1, c2⟩
    · have hq : q ∈ ([(0, .inr (.inl tau))] : List (Nat × zV)) := hq
      rw [List.mem_singleton.mp hq]
      exact ⟨_, a1, a, rfl, zc_T_at⟩
    · obtain ⟨x, r, n1, n2, n3⟩ := zc_nw_ok hnw hs he2 q hq
      rw [ht]
      refine ⟨.int x, ?_, by rw [n2]; exact ⟨x, rfl, n3⟩⟩
      obtain ⟨n0, n4⟩ := n1
      rw [n0, a1]
      exact n4
    · have hi : ([] : List (zLoc × zV))[i]? = some q := hi
      simp at hi
  · cases h0
end ZCONS2
end
section
/-! The law from its entry to its head: what is made there. -/
def zy_nw (cl : List vw_C) (d : Nat) (st : zS) (nw : List (zLoc × zV)) : Bool := nw.all fun q => (match cl[q.1.2.1]? with
  | some r => Nat.blt q.1.2.2.1 r.2.2
  | none => false) && (match q.1.2.2.2, z_ffind st d q.1.2.1 q.1.2.2.1, q.2 with
  | some e, some w, .inl r => (z_E st).any (fun t => Nat.beq t.1 w && (match z_get (z_V st) t.2.1, z_get (z_V st) t.2.2 with
    | some (.inl i), some (.inl v) => (z_ile (e : Nat) i.1 && z_ile i.2 (e : Nat)) && (z_ile r.1 v.1 && z_ile v.2 r.2)
    | _, _ => false))
  | _, _, _ => false)
theorem zy_nw_ok {OB : Nat → Nat} {D : va_G} {DA : Nat → ClassId} {cl : List vw_C} {TY : List zTy} {PHI : List (List Nat)} {sz : Nat} {raw : Option Nat} {pu : Bool} {T0 T : zTp} {H0 H : Heap} {env0 env : List Value} {nL : Nat} {st : zS} {locs : List Loc} {ls : Array Slot} {stk : List Value} {d a : Nat} {nw : List (zLoc × zV)} (h : zy_nw cl d st nw = true) (hs : z_sat OB D DA cl TY PHI sz raw pu T0 H0 env0 nL st T H locs env ls stk) (h0 : env[d]? = some (.ref a)) :
    ∀ q ∈ nw, ∃ (x : Int32) (r : zR), z_lv D cl H (some (.ref a)) q.1 (.int x) ∧ q.2 = .inl r ∧ z_in r x := by
  intro q hq
  have h1 := List.all_eq_true.mp h q hq
  rw [Bool.and_eq_true] at h1
  obtain ⟨c3, c4⟩ := h1
  split at c3
  · rename_i r0 hr0
    split at c4
    · rename_i e w r he hw hr
      obtain ⟨t, ht, ht2⟩ := List.any_eq_true.mp c4
      rw [Bool.and_eq_true] at ht2
      obtain ⟨d1, d2⟩ := ht2
      split at d2
      · rename_i i v hi hv
        simp only [Bool.and_eq_true] at d2
        obtain ⟨⟨i1, i2⟩, v1, v2⟩ := d2
        obtain ⟨a2, w2, e1, e2, e3⟩ := z_ffind_ok hw hs
        rw [h0] at e1
        cases e1
        obtain ⟨a3, x, w3, f1, f2, f3, f4, f5⟩ := hs.2.2.2.2.2.2.1 t ht
        rw [z_beq d1, e2] at f1
        cases f1
        obtain ⟨xi, g1, xi2, rfl, g2⟩ := z_get_ok hs.2.2.2.2.1 hi
        rw [f2] at g1
        cases g1
        obtain ⟨xv, k1, xv2, rfl, k2⟩ := z_get_ok hs.2.2.2.2.1 hv
        rw [f4] at k1
        cases k1
        have j1 := z_ile_ok i1
        have j2 := z_ile_ok i2
        have j3 := g2.1
        have j4 := g2.2
        have ex : x.toInt.toNat = e := by omega
        rw [ex] at f5
        refine ⟨xv2, r, ⟨a, r0, rfl, hr0, z_blt c3, ?_⟩, hr, z_in_le (z_ile_ok v1) (z_ile_ok v2) k2⟩
        rw [he]
        exact ⟨a3, e3, f5⟩
      · cases d2
    · cases c4
  · cases c3
def zy_fit (cl : List vw_C) (tx tm : Nat) (mk : Nat × Nat) (nw : List (zLoc × zV)) (st : zS) : Bool := match z_loc (z_L st) 0, z_loc (z_L st) 1, z_loc (z_L st) 2, z_loc (z_L st) 3 with
  | some d0, some d1, some d2, some d3 => (match z_get (z_V st) d1, z_get (z_V st) d2, z_get (z_V st) d3 with
    | some (.inr (.inl t1)), some (.inr (.inl t2)), some (.inl r) => (Nat.beq t1 tx && Nat.beq t2 tm) && (z_ile 0 r.1 && z_ile r.2 0)
    | _, _, _ => false) && ((Nat.beq d0 0 && (z_S st).isEmpty) && ((Nat.ble (z_C st).1 mk.1 && Nat.ble (z_C st).2 mk.2) && zy_nw cl d2 st nw))
  | _, _, _, _ => false
def zy_hs (cl : List vw_C) (hpc tx tm : Nat) (mk : Nat × Nat) (nw : List (zLoc × zV)) : zHk := fun pc st => cond (Nat.beq pc hpc && zy_fit cl tx tm mk nw st) (some []) none
def zy_chk (TY : List zTy) (PHI : List (List Nat)) (cl : List vw_C) (FT : Nat → Nat → FieldType) (MT : List zM) (SG : List (Nat × zSig)) (PHS : List Nat) (R : Room) (nL mc ms : Nat) (cc : ByteArray) (ce : zCe) (hpc tx tm : Nat) (mk : Nat × Nat) (nw : List (zLoc × zV)) (N : Int) : Bool := z_run (zm_stp TY PHI cl FT MT SG PHS R nL mc ms cc ce.1 (zy_hs cl hpc tx tm mk nw)) (z_cut [] 2 none) ce.2.2 0 (zm_st0 N)
/-- what stands at the head: the objects, by their types -/
def zy_H (OB : Nat → Nat) (D : va_G) (DA : Nat → ClassId) (cl : List vw_C) (TY : List zTy) (sz : Nat) (H0 : Heap) (nL b tx tm : Nat) (nw : List (zLoc × zV)) (T : zTp) (H : Heap) (locs : List Loc) (ls : Array Slot) (x m : Nat) : Prop :=
  (z_ht OB D DA cl TY T H ∧ (∀ a t, T a = some t → sz ≤ a) ∧ va_S (fun q => sz ≤ q) H0 H locs) ∧ (T x = some tx ∧ T m = some tm) ∧
  (∃ lv, lv_has ls nL lv ∧ (∀ q ∈ lv, q.2.category = 1) ∧ (0, Value.ref b) ∈ lv ∧ (1, Value.ref x) ∈ lv ∧ (2, Value.ref m) ∈ lv ∧ (3, Value.int 0) ∈ lv) ∧
  ∀ q ∈ nw, ∃ (y : Int32) (r : zR), z_lv D cl H (some (.ref m)) q.1 (.int y) ∧ q.2 = .inl r ∧ z_in r y
section ZYSTART
variable {p : Program} {l : Launch} {e : Env} {R : Room} {s : State} {m : MethodId} {args : Array Value} {below : List Frame} {meth : Method} {c : Code} {Q : State → Prop} {cc : ByteArray}
variable {OB : Nat → Nat} {D : va_G} {DA : Nat → ClassId} {cl : List vw_C} {FT : Nat → Nat → FieldType} {TY : List zTy} {PHI : List (List Nat)} {nL : Nat} {KXf : (Nat → Nat) → Nat → State → Heap → Prop}
variable {TBL : List Cond} {own : String} {MT : List zM} {SG : List (Nat × zSig)} {PHS : List Nat} {ce : zCe} {mc ms : Nat} {b L N : Nat} {xs : Nat → Int32} {hpc tx tm : Nat} {mk : Nat × Nat} {nw : List (zLoc × zV)}
theorem zy_start (hx : p.tables.exec = Jvm.exec) (hb : c.code = cc) (hml : c.maxLocals = nL) (hN : N ≤ 100000) (hL : L ≤ N) (hOB : OB 0 = b) (hD : z_Dy s m args TBL own D cl DA (z_tys DA)) (hXp : z_KXp s.heap.size (KXf OB s.heap.size)) (hKX : KXf OB s.heap.size s s.heap) (hKS : z_KS TBL TBL cl FT own MT ce.1) (hin : k_IN ce.1 = none) (hPH : ∀ a ∈ PHS, z_phok TY PHI a = true)
    (hok : ∀ g ∈ (k_CA ce.1).filterMap (fun a => SG[a.2]?), ∀ m2, MT[g.1]? = some m2 → z_OK TBL cl FT TY PHI KXf m2.1 m2.2.1 m2.2.2.1 m2.2.2.2.1 g.2) (hend : ∀ pc H ls, decode cc pc = .ok (.ireturn, 1) → W p l e R s m args below meth c H [] mc ms Q (F0 m pc ls [.int 1]))
    (hS : zy_chk TY PHI cl FT MT SG PHS R nL mc ms cc ce hpc tx tm mk nw (N : Int) = true)
    (hI : ∀ T H locs ls x m2, zy_H OB D DA cl TY s.heap.size s.heap nL b tx tm nw T H locs ls x m2 → W p l e R s m args below meth c H locs mk.1 mk.2 Q (F0 m hpc ls []))
    {ls : Array Slot} (hls : z_ls nL ls [.ref b, .int (Int32.ofNat L)] [(0, 0)]) : W p l e R s m args below meth c s.heap [] 0 0 Q (F0 m 0 ls []) := by
  have hLi : (Int32.ofNat L).toInt = (L : Int) := Int32.toInt_ofNat_of_lt (by omega)
  have hsat : z_sat OB D DA cl TY PHI s.heap.size none false (fun _ => none) s.heap [.ref b, .int (Int32.ofNat L)] nL (zm_st0 (N : Int)) (fun _ => none) s.heap [] [.ref b, .int (Int32.ofNat L)] ls [] := by
    refine ⟨rfl, ⟨[], by rw [List.append_nil]⟩, hls, rfl, fun q hq => ?_, fun q hq => absurd hq List.not_mem_nil, fun q hq => absurd hq List.not_mem_nil, fun q hq => absurd hq List.not_mem_nil, trivial, ⟨fun a t ht => absurd ht (by simp), fun a t ci fl ha => absurd ha (by simp), fun a a' t t' ci fl fl' ha => absurd ha (by simp)⟩, ⟨fun a t ht => absurd ht (by simp), fun h => absurd h (by simp), z_fin_rf⟩, fun a t ht => absurd ht (by simp), fun q _ _ _ => ⟨rfl, rfl⟩, va_S.rf⟩
    rcases List.mem_cons.mp hq with rfl | hq
    · exact ⟨_, rfl, by show _ = Value.ref (OB 0); rw [hOB]⟩
    rcases List.mem_cons.mp hq with rfl | hq
    · exact ⟨_, rfl, _, rfl, by rw [z_in, hLi]; exact ⟨by show (0 : Int) ≤ _; omega, by show _ ≤ (N : Int); omega⟩⟩
    cases hq
  refine z_runs (CU := []) (ng := 2) (ends := fun env : List Value => env[0]? = some (Value.ref b) ∧ env[1]? = some (Value.int (Int32.ofNat L))) (fun env1 env2 he hgh => ⟨(hgh 0 (by omega)).trans he.1, (hgh 1 (by omega)).trans he.2⟩) (fun env1 pc st Ls he hL2 hall => ?_) (stp := zm_stp TY PHI cl FT MT SG PHS R nL mc ms cc ce.1 (zy_hs cl hpc tx tm mk nw)) (fuel := ce.2.2) rfl hS ⟨rfl, rfl⟩ (Nat.le_refl _) hsat
  have hgg : z_Good p l e R s m args below meth c Q OB D DA cl TY PHI s.heap.size none false (fun _ => none) s.heap env1 nL (fun pc st => ∀ T2 H2 locs2 env2 ls2 stk2, z_sat OB D DA cl TY PHI s.heap.size none false (fun _ => none) s.heap env1 nL st T2 H2 locs2 env2 ls2 stk2 → W p l e R s m args below meth c H2 locs2 (z_C st).1 (z_C st).2 Q (F0 m pc ls2 stk2)) := fun _ _ => Iff.rfl
  unfold zm_stp z_hst at hL2
  split at hL2
  · rename_i L3 hL3
    cases hL2
    unfold zy_hs at hL3
    obtain ⟨hc, -⟩ := z_cond hL3
    rw [Bool.and_eq_true] at hc
    have hpc2 := z_beq hc.1
    subst hpc2
    intro T H locs env ls2 stk hs
    have hf := hc.2
    unfold zy_fit at hf
    split at hf
    · rename_i d0 d1 d2 d3 l0 l1 l2 l3
      simp only [Bool.and_eq_true] at hf
      obtain ⟨hv, ⟨h0, hS0⟩, ⟨c1, c2⟩, hnw⟩ := hf
      split at hv
      · rename_i t1 t2 r v1 v2 v3
        simp only [Bool.and_eq_true] at hv
        obtain ⟨⟨e1, e2⟩, r1, r2⟩ := hv
        obtain ⟨w1, x1, a1, rfl, y1⟩ := z_get_ok hs.2.2.2.2.1 v1
        obtain ⟨w2, x2, a2, rfl, y2⟩ := z_get_ok hs.2.2.2.2.1 v2
        obtain ⟨w3, x3, a3, rfl, y3⟩ := z_get_ok hs.2.2.2.2.1 v3
        have k1 := z_ile_ok r1
        have k2 := z_ile_ok r2
        have k3 := y3.1
        have k4 := y3.2
        have ea : a3 = 0 := z_int0 (by omega)
        subst ea
        obtain ⟨lv, m1, m2, m3⟩ := hs.2.2.1
        obtain ⟨w, hw⟩ := hs.2.1
        have mem : ∀ {i d : Nat} {v : Value}, z_loc (z_L st) i = some d → env[d]? = some v → (i, v) ∈ lv := fun hl he => by
          obtain ⟨v, q1, q2⟩ := m3 _ (z_loc_mem hl)
          have q1 : env[_]? = some v := q1
          rw [he] at q1
          cases q1
          exact q2
        have hk := hs.2.2.2.1
        rw [List.isEmpty_iff.mp hS0] at hk
        have hk : stk = [] := hk
        subst hk
        have hm := hs.2.2.2.2.2.2.2.2.2
        have hb0 : env[d0]? = some (Value.ref b) := by rw [z_beq h0, hw]; exact z_app he.1
        exact W.widen (Nat.le_of_ble_eq_true c1) (Nat.le_of_ble_eq_true c2) (hI T H locs ls2 a1 a2 ⟨⟨hm.1, hm.2.1.1, hm.2.2.2.2⟩, ⟨by rw [y1, z_beq e1], by rw [y2, z_beq e2]⟩, ⟨lv, m1, m2, mem l0 hb0, mem l1 x1, mem l2 x2, mem l3 x3⟩, zy_nw_ok hnw hs x2⟩)
      · cases hv
    · cases hf
  · exact z_stp_ok hgg hx hb hml hD (Nat.le_refl _) hXp hKX hKS (fun j hj => by rw [hin] at hj; cases hj) hPH hok (fun pc st hd hf => by cases hf) (fun pc st hd hf => zl_fin_ok hgg rfl hend hd hf) hL2 hall
end ZYSTART
end
section
/-! Types, fresh from the constructors. -/
def zxT0 : List zTy := [.inr (0, (24, 24), [((0, 23), .inl (.ofNat 0, .ofNat 0))]), .inr (0, (24, 24), [((0, 23), .inl (.ofNat 0, .ofNat 0))]), .inr (0, (24, 24), [((0, 23), .inl (.ofNat 0, .ofNat 0))]), .inr (0, (24, 24), [((0, 23), .inl (.ofNat 0, .ofNat 0))]), .inr (0, (24, 24), [((0, 23), .inl (.ofNat 0, .ofNat 0))]), .inl (1, [.inl (.ofNat 0, .ofNat 0), .inr (.inl 0), .inr (.inl 1), .inr (.inl 2), .inr (.inl 3), .inr (.inl 4), .inl (.ofNat 0, .ofNat 0), .inl (.ofNat 0, .ofNat 0), .inl (.ofNat 0, .ofNat 0), .inl (.ofNat 4, .ofNat 4), .inl (.ofNat 3, .ofNat 3), .inl (.ofNat 1, .ofNat 1)]), .inr (0, (24, 24), [((0, 23), .inl (.ofNat 0, .ofNat 0))]), .inr (0, (24, 24), [((0, 23), .inl (.ofNat 0, .ofNat 0))]), .inr (0, (24, 24), [((0, 23), .inl (.ofNat 0, .ofNat 0))]), .inr (0, (24, 24), [((0, 23), .inl (.ofNat 0, .ofNat 0))]), .inr (0, (24, 24), [((0, 23), .inl (.ofNat 0, .ofNat 0))]), .inl (1, [.inl (.ofNat 0, .ofNat 0), .inr (.inl 6), .inr (.inl 7), .inr (.inl 8), .inr (.inl 9), .inr (.inl 10), .inl (.ofNat 0, .ofNat 0), .inl (.ofNat 0, .ofNat 0), .inl (.ofNat 0, .ofNat 0), .inl (.ofNat 4, .ofNat 4), .inl (.ofNat 3, .ofNat 3), .inl (.ofNat 1, .ofNat 1)]), .inr (0, (24, 24), [((0, 23), .inl (.ofNat 0, .ofNat 0))]), .inr (0, (24, 24), [((0, 23), .inl (.ofNat 0, .ofNat 0))]), .inr (0, (24, 24), [((0, 23), .inl (.ofNat 0, .ofNat 0))]), .inr (0, (24, 24), [((0, 23), .inl (.ofNat 0, .ofNat 0))]), .inr (0, (24, 24), [((0, 23), .inl (.ofNat 0, .ofNat 0))]), .inl (1, [.inl (.ofNat 0, .ofNat 0), .inr (.inl 12), .inr (.inl 13), .inr (.inl 14), .inr (.inl 15), .inr (.inl 16), .inl (.ofNat 0, .ofNat 0), .inl (.ofNat 0, .ofNat 0), .inl (.ofNat 0, .ofNat 0), .inl (.ofNat 4, .ofNat 4), .inl (.ofNat 3, .ofNat 3), .inl (.ofNat 1, .ofNat 1)]), .inr (0, (12, 12), [((0, 11), .inl (.ofNat 0, .ofNat 0))]), .inr (0, (6, 6), [((0, 5), .inl (.ofNat 0, .ofNat 0))])]
def zxT1 : List zTy := [.inl (2, [.inr (.inl 18), .inl (.ofNat 0, .ofNat 0), .inr (.inl 19)]), .inr (0, (12, 12), [((0, 11), .inl (.ofNat 0, .ofNat 0))]), .inr (0, (6, 6), [((0, 5), .inl (.ofNat 0, .ofNat 0))]), .inl (2, [.inr (.inl 21), .inl (.ofNat 0, .ofNat 0), .inr (.inl 22)]), .inr (0, (220, 220), [((0, 219), .inl (.ofNat 0, .ofNat 0))]), .inl (3, [.inr (.inl 24), .inl (.ofNat 0, .ofNat 0)]), .inr (0, (200, 200), [((0, 199), .inl (.ofNat 0, .ofNat 0))]), .inr (0, (200, 200), [((0, 199), .inl (.ofNat 0, .ofNat 0))]), .inr (0, (14, 14), [((0, 13), .inl (.ofNat 0, .ofNat 0))]), .inr (0, (14, 14), [((0, 13), .inl (.ofNat 0, .ofNat 0))]), .inr (0, (14, 14), [((0, 13), .inl (.ofNat 0, .ofNat 0))]), .inr (0, (14, 14), [((0, 13), .inl (.ofNat 0, .ofNat 0))]), .inr (0, (13, 13), [((0, 12), .inl (.ofNat 0, .ofNat 0))]), .inr (0, (40, 40), [((0, 39), .inl (.ofNat 0, .ofNat 0))]), .inl (4, [.inr (.inl 26), .inr (.inl 27), .inl (.ofNat 0, .ofNat 0), .inr (.inl 28), .inr (.inl 29), .inr (.inl 30), .inr (.inl 31), .inl (.ofNat 0, .ofNat 0), .inl (.ofNat 0, .ofNat 0), .inl (.ofNat 0, .ofNat 0), .inl (.ofNat 0, .ofNat 0), .inl (.ofNat 0, .ofNat 0), .inr (.inl 32), .inr (.inl 33), .inl (.ofNat 0, .ofNat 0)]), .inr (0, (200, 200), [((0, 199), .inl (.ofNat 0, .ofNat 0))]), .inr (0, (200, 200), [((0, 199), .inl (.ofNat 0, .ofNat 0))]), .inr (0, (14, 14), [((0, 13), .inl (.ofNat 0, .ofNat 0))]), .inr (0, (14, 14), [((0, 13), .inl (.ofNat 0, .ofNat 0))]), .inr (0, (14, 14), [((0, 13), .inl (.ofNat 0, .ofNat 0))])]
def zxT2 : List zTy := [.inr (0, (14, 14), [((0, 13), .inl (.ofNat 0, .ofNat 0))]), .inr (0, (13, 13), [((0, 12), .inl (.ofNat 0, .ofNat 0))]), .inr (0, (40, 40), [((0, 39), .inl (.ofNat 0, .ofNat 0))]), .inl (4, [.inr (.inl 35), .inr (.inl 36), .inl (.ofNat 0, .ofNat 0), .inr (.inl 37), .inr (.inl 38), .inr (.inl 39), .inr (.inl 40), .inl (.ofNat 0, .ofNat 0), .inl (.ofNat 0, .ofNat 0), .inl (.ofNat 0, .ofNat 0), .inl (.ofNat 0, .ofNat 0), .inl (.ofNat 0, .ofNat 0), .inr (.inl 41), .inr (.inl 42), .inl (.ofNat 0, .ofNat 0)]), .inl (5, [.inr (.inl 24), .inl (.ofNat 0, .ofNat 0), .inl (.ofNat 0, .ofNat 0), .inl (.ofNat 0, .ofNat 0), .inr (.inl 43)]), .inr (0, (8, 8), [((0, 7), .inl (.ofNat 0, .ofNat 0))]), .inl (6, [.inl (.ofNat 0, .ofNat 0), .inl (.ofNat 0, .ofNat 0), .inr (.inl 45)]), .inr (0, (8, 8), [((0, 7), .inl (.ofNat 0, .ofNat 0))]), .inl (6, [.inl (.ofNat 0, .ofNat 0), .inl (.ofNat 0, .ofNat 0), .inr (.inl 47)]), .inr (0, (24, 24), [((0, 23), .inl (.ofNat 0, .ofNat 0))]), .inr (0, (24, 24), [((0, 23), .inl (.ofNat 0, .ofNat 0))]), .inr (0, (24, 24), [((0, 23), .inl (.ofNat 0, .ofNat 0))]), .inl (7, [.inr (.inl 5), .inr (.inl 34), .inl (.ofNat 0, .ofNat 0), .inl (.ofNat 0, .ofNat 0), .inl (.ofNat 0, .ofNat 0), .inr (.inl 49), .inl (.ofNat 0, .ofNat 0), .inl (.ofNat 0, .ofNat 0), .inr (.inl 50), .inr (.inl 51)]), .inr (0, (24, 24), [((0, 23), .inl (.ofNat 0, .ofNat 0))]), .inr (0, (24, 24), [((0, 23), .inl (.ofNat 0, .ofNat 0))]), .inr (0, (24, 24), [((0, 23), .inl (.ofNat 0, .ofNat 0))]), .inl (7, [.inr (.inl 5), .inr (.inl 34), .inl (.ofNat 0, .ofNat 0), .inl (.ofNat 0, .ofNat 0), .inl (.ofNat 0, .ofNat 0), .inr (.inl 53), .inl (.ofNat 0, .ofNat 0), .inl (.ofNat 0, .ofNat 0), .inr (.inl 54), .inr (.inl 55)]), .inr (0, (72, 72), [((0, 71), .inl (.ofNat 0, .ofNat 0))]), .inr (0, (24, 24), [((0, 23), .inl (.ofNat 0, .ofNat 0))]), .inr (0, (8, 8), [((0, 7), .inl (.ofNat 0, .ofNat 0))])]
def zxT3 : List zTy := [.inl (8, [.inr (.inl 57), .inr (.inl 58), .inr (.inl 59), .inr (.inl 46), .inr (.inl 49), .inl (.negSucc 0, .negSucc 0), .inl (.ofNat 0, .ofNat 0)]), .inr (0, (24, 24), [((0, 23), .inl (.ofNat 0, .ofNat 0))]), .inr (0, (264, 264), [((0, 263), .inl (.ofNat 0, .ofNat 0))]), .inr (0, (264, 264), [((0, 263), .inl (.ofNat 0, .ofNat 0))]), .inr (0, (264, 264), [((0, 263), .inl (.ofNat 0, .ofNat 0))]), .inr (0, (264, 264), [((0, 263), .inl (.ofNat 0, .ofNat 0))]), .inr (0, (288, 288), [((0, 287), .inl (.ofNat 0, .ofNat 0))]), .inr (0, (288, 288), [((0, 287), .inl (.ofNat 0, .ofNat 0))]), .inr (0, (288, 288), [((0, 287), .inl (.ofNat 0, .ofNat 0))]), .inr (0, (288, 288), [((0, 287), .inl (.ofNat 0, .ofNat 0))]), .inl (9, [.inl (.ofNat 0, .ofNat 0), .inl (.negSucc 0, .negSucc 0), .inl (.ofNat 0, .ofNat 0), .inl (.negSucc 0, .negSucc 0), .inr (.inl 61), .inr (.inl 62), .inr (.inl 63), .inr (.inl 64), .inr (.inl 65), .inl (.ofNat 0, .ofNat 0), .inl (.negSucc 0, .negSucc 0), .inr (.inl 66), .inr (.inl 67), .inr (.inl 68), .inr (.inl 69)]), .inr (0, (288, 288), [((0, 287), .inl (.ofNat 0, .ofNat 0))]), .inr (2, (288, 288), [((0, 287), .inr (.inr 0))]), .inr (0, (12, 12), [((0, 11), .inl (.ofNat 0, .ofNat 0))]), .inr (0, (24, 24), [((0, 23), .inl (.ofNat 0, .ofNat 0))]), .inr (0, (24, 24), [((0, 23), .inl (.ofNat 0, .ofNat 0))]), .inl (10, [.inr (.inl 71), .inr (.inl 72), .inr (.inl 73), .inl (.ofNat 0, .ofNat 0), .inr (.inl 74), .inr (.inl 75), .inr (.inl 5)]), .inr (0, (8, 8), [((0, 7), .inl (.ofNat 0, .ofNat 0))]), .inr (0, (24, 24), [((0, 23), .inl (.ofNat 0, .ofNat 0))]), .inr (0, (24, 24), [((0, 23), .inl (.ofNat 0, .ofNat 0))])]
def zxT4 : List zTy := [.inr (0, (24, 24), [((0, 23), .inl (.ofNat 0, .ofNat 0))]), .inr (0, (24, 24), [((0, 23), .inl (.ofNat 0, .ofNat 0))]), .inr (0, (1000, 1000), [((0, 999), .inl (.ofNat 0, .ofNat 0))]), .inr (0, (1000, 1000), [((0, 999), .inl (.ofNat 0, .ofNat 0))]), .inl (11, [.inr (.inl 77), .inr (.inl 78), .inr (.inl 79), .inr (.inl 80), .inr (.inl 81), .inr (.inl 82), .inr (.inl 83)]), .inr (0, (288, 288), [((0, 287), .inl (.ofNat 0, .ofNat 0))]), .inl (0, [.inr (.inl 5), .inr (.inl 11), .inr (.inl 17), .inr (.inl 20), .inr (.inl 23), .inl (.ofNat 0, .ofNat 0), .inr (.inl 25), .inr (.inl 34), .inr (.inl 43), .inr (.inl 44), .inr (.inl 46), .inr (.inl 48), .inr (.inl 52), .inr (.inl 56), .inr (.inl 60), .inr (.inl 70), .inr (.inl 76), .inr (.inl 84), .inr (.inl 85)]), .inr (0, (422, 422), [((0, 23), .inl (.ofNat 0, .ofNat 0)), ((24, 47), .inl (.ofNat 0, .ofNat 0)), ((48, 71), .inl (.ofNat 0, .ofNat 0)), ((72, 95), .inl (.ofNat 0, .ofNat 0)), ((96, 119), .inl (.ofNat 0, .ofNat 0)), ((120, 125), .inl (.ofNat 0, .ofNat 0)), ((126, 126), .inl (.ofNat 0, .ofNat 0)), ((127, 127), .inl (.ofNat 0, .ofNat 0)), ((128, 128), .inl (.ofNat 0, .ofNat 0)), ((129, 129), .inl (.ofNat 0, .ofNat 0)), ((130, 130), .inl (.ofNat 0, .ofNat 0)), ((131, 131), .inl (.ofNat 0, .ofNat 4)), ((132, 132), .inl (.ofNat 0, .ofNat 3)), ((133, 133), .inl (.ofNat 0, .ofNat 1)), ((134, 421), .inl (.ofNat 0, .ofNat 0)), ((0, 421), .inl (.ofNat 0, .ofNat 4))]), .inr (0, (422, 422), [((0, 23), .inl (.ofNat 0, .ofNat 0)), ((24, 47), .inl (.ofNat 0, .ofNat 0)), ((48, 71), .inl (.ofNat 0, .ofNat 0)), ((72, 95), .inl (.ofNat 0, .ofNat 0)), ((96, 119), .inl (.ofNat 0, .ofNat 0)), ((120, 125), .inl (.ofNat 0, .ofNat 0)), ((126, 126), .inl (.ofNat 0, .ofNat 0)), ((127, 127), .inl (.ofNat 0, .ofNat 0)), ((128, 128), .inl (.ofNat 0, .ofNat 0)), ((129, 129), .inl (.ofNat 0, .ofNat 0)), ((130, 130), .inl (.ofNat 0, .ofNat 0)), ((131, 131), .inl (.ofNat 0, .ofNat 0)), ((132, 132), .inl (.ofNat 0, .ofNat 0)), ((133, 133), .inl (.ofNat 0, .ofNat 0)), ((134, 421), .inl (.ofNat 0, .ofNat 0)), ((0, 421), .inl (.ofNat 0, .ofNat 0))]), .inr (0, (422, 422), [((0, 23), .inl (.ofNat 0, .ofNat 0)), ((24, 47), .inl (.ofNat 0, .ofNat 0)), ((48, 71), .inl (.ofNat 0, .ofNat 0)), ((72, 95), .inl (.ofNat 0, .ofNat 0)), ((96, 119), .inl (.ofNat 0, .ofNat 0)), ((120, 125), .inl (.ofNat 0, .ofNat 0)), ((126, 126), .inl (.ofNat 0, .ofNat 0)), ((127, 127), .inl (.ofNat 0, .ofNat 0)), ((128, 128), .inl (.ofNat 0, .ofNat 0)), ((129, 129), .inl (.ofNat 0, .ofNat 0)), ((130, 130), .inl (.ofNat 0, .ofNat 0)), ((131, 131), .inl (.ofNat 0, .ofNat 0)), ((132, 132), .inl (.ofNat 0, .ofNat 0)), ((133, 133), .inl (.ofNat 0, .ofNat 0)), ((134, 421), .inl (.ofNat 0, .ofNat 0)), ((0, 421), .inl (.ofNat 0, .ofNat 0))]), .inr (1, (220, 220), [((0, 219), .inl (.ofNat 0, .ofNat 0))]), .inr (0, (220, 220), [((0, 219), .inl (.ofNat 0, .ofNat 0))]), .inr (0, (220, 220), [((0, 219), .inl (.ofNat 0, .ofNat 0))]), .inr (0, (14, 14), [((0, 13), .inl (.ofNat 0, .ofNat 0))]), .inr (0, (14, 14), [((0, 13), .inl (.ofNat 0, .ofNat 0))]), .inr (0, (14, 14), [((0, 13), .inl (.ofNat 0, .ofNat 0))]), .inr (0, (14, 14), [((0, 13), .inl (.ofNat 0, .ofNat 0))]), .inr (0, (220, 220), [((0, 219), .inl (.ofNat 0, .ofNat 0))]), .inr (0, (14, 14), [((0, 13), .inl (.ofNat 0, .ofNat 0))]), .inr (0, (14, 14), [((0, 13), .inl (.ofNat 0, .ofNat 0))])]
def zxT5 : List zTy := [.inr (0, (14, 14), [((0, 13), .inl (.ofNat 0, .ofNat 0))]), .inr (0, (14, 14), [((0, 13), .inl (.ofNat 0, .ofNat 0))]), .inr (0, (220, 220), [((0, 219), .inl (.ofNat 0, .ofNat 0))]), .inr (0, (13, 13), [((0, 12), .inl (.ofNat 0, .ofNat 0))]), .inr (0, (24, 24), [((0, 23), .inl (.ofNat 0, .ofNat 0))]), .inr (0, (12, 12), [((0, 11), .inl (.ofNat 0, .ofNat 0))]), .inr (0, (12, 12), [((0, 11), .inl (.ofNat 0, .ofNat 0))]), .inr (0, (12, 12), [((0, 11), .inl (.ofNat 0, .ofNat 0))]), .inr (0, (12, 12), [((0, 11), .inl (.ofNat 0, .ofNat 0))]), .inr (0, (8, 8), [((0, 7), .inl (.ofNat 0, .ofNat 0))]), .inr (0, (8, 8), [((0, 7), .inl (.ofNat 0, .ofNat 0))]), .inr (0, (8, 8), [((0, 7), .inl (.ofNat 0, .ofNat 0))]), .inr (0, (6912, 6912), [((0, 6911), .inl (.ofNat 0, .ofNat 0))]), .inr (0, (288, 288), [((0, 287), .inl (.ofNat 0, .ofNat 0))]), .inr (0, (24, 24), [((0, 23), .inl (.ofNat 0, .ofNat 0))]), .inr (0, (12, 12), [((0, 11), .inl (.ofNat 0, .ofNat 0))]), .inr (0, (8, 8), [((0, 7), .inl (.ofNat 0, .ofNat 0))]), .inr (0, (28, 28), [((0, 27), .inl (.ofNat 0, .ofNat 0))]), .inr (0, (24, 24), [((0, 23), .inl (.ofNat 0, .ofNat 0))]), .inr (0, (24, 24), [((0, 23), .inl (.ofNat 0, .ofNat 0))])]
def zxT6 : List zTy := [.inr (0, (25000, 25000), [((0, 24999), .inl (.ofNat 0, .ofNat 0))]), .inr (0, (288, 288), [((0, 287), .inl (.ofNat 0, .ofNat 0))]), .inr (0, (288, 288), [((0, 287), .inl (.ofNat 0, .ofNat 0))]), .inr (0, (288, 288), [((0, 287), .inl (.ofNat 0, .ofNat 0))]), .inr (0, (24, 24), [((0, 23), .inl (.ofNat 0, .ofNat 0))]), .inr (0, (12, 12), [((0, 11), .inl (.ofNat 0, .ofNat 0))]), .inr (0, (12, 12), [((0, 11), .inl (.ofNat 0, .ofNat 0))]), .inr (0, (288, 288), [((0, 287), .inl (.ofNat 0, .ofNat 0))]), .inl (12, [.inr (.inl 87), .inr (.inl 88), .inr (.inl 89), .inr (.inl 90), .inl (.ofNat 0, .ofNat 0), .inl (.ofNat 0, .ofNat 0), .inl (.ofNat 0, .ofNat 0), .inl (.ofNat 0, .ofNat 0), .inl (.ofNat 0, .ofNat 0), .inl (.ofNat 0, .ofNat 0), .inl (.ofNat 0, .ofNat 0), .inl (.ofNat 0, .ofNat 0), .inl (.ofNat 0, .ofNat 0), .inl (.ofNat 0, .ofNat 0), .inr (.inl 91), .inr (.inl 92), .inr (.inl 93), .inr (.inl 94), .inr (.inl 95), .inr (.inl 96), .inr (.inl 97), .inr (.inl 98), .inr (.inl 99), .inr (.inl 100), .inr (.inl 101), .inr (.inl 102), .inr (.inl 103), .inl (.ofNat 0, .ofNat 0), .inr (.inl 104), .inl (.ofNat 0, .ofNat 0), .inl (.ofNat 0, .ofNat 0), .inl (.ofNat 0, .ofNat 0), .inl (.ofNat 0, .ofNat 0), .inl (.ofNat 0, .ofNat 0), .inr (.inl 105), .inr (.inl 106), .inr (.inl 107), .inr (.inl 108), .inr (.inl 109), .inr (.inl 110), .inr (.inl 111), .inl (.ofNat 0, .ofNat 0), .inr (.inl 112), .inr (.inl 113), .inr (.inl 114), .inr (.inl 115), .inr (.inl 116), .inr (.inl 117), .inl (.ofNat 0, .ofNat 0), .inr (.inl 118), .inr (.inl 119), .inr (.inl 120), .inr (.inl 121), .inr (.inl 122), .inr (.inl 123), .inl (.ofNat 0, .ofNat 0), .inl (.ofNat 0, .ofNat 0), .inl (.ofNat 0, .ofNat 0), .inl (.ofNat 0, .ofNat 0), .inr (.inl 124), .inr (.inl 125), .inr (.inl 126), .inr (.inl 127), .inl (.ofNat 0, .ofNat 0)]), .inr (0, (200, 200), [((0, 199), .inl (.ofNat 0, .ofNat 0))]), .inr (0, (200, 200), [((0, 199), .inl (.ofNat 0, .ofNat 0))])]
def z_TYs : List zTy := (zxT0 ++ (zxT1 ++ (zxT2 ++ (zxT3 ++ (zxT4 ++ (zxT5 ++ zxT6))))))
def z_PH : List (List Nat) := []
def z_PS : List Nat := []
theorem z_phk : ∀ a ∈ z_PS, z_phok z_TYs z_PH a = true := fun a h => absurd h List.not_mem_nil
end
section
/-! What each constructor answers. -/
def zxg0 : zSig := ([.inl (.ofNat 0, .ofNat 0)], some 1, [], [([(0, .inr (.inl 5))], none, [], [])], false, (5, 120), (1, 12), 0)
def zxg1 : zSig := ([.inl (.ofNat 0, .ofNat 0)], some 1, [], [([(0, .inr (.inl 11))], none, [], [])], false, (5, 120), (1, 12), 0)
def zxg2 : zSig := ([.inl (.ofNat 0, .ofNat 0)], some 1, [], [([(0, .inr (.inl 17))], none, [], [])], false, (5, 120), (1, 12), 0)
def zxg3 : zSig := ([.inl (.ofNat 0, .ofNat 0)], some 2, [], [([(0, .inr (.inl 20))], none, [], [])], false, (2, 18), (1, 12), 0)
def zxg4 : zSig := ([.inl (.ofNat 0, .ofNat 0)], some 2, [], [([(0, .inr (.inl 23))], none, [], [])], false, (2, 18), (1, 12), 0)
def zxg5 : zSig := ([.inl (.ofNat 0, .ofNat 0)], some 3, [], [([(0, .inr (.inl 25))], none, [], [])], false, (1, 220), (1, 12), 0)
def zxg6 : zSig := ([.inl (.ofNat 0, .ofNat 0)], some 4, [], [([(0, .inr (.inl 34))], none, [], [])], false, (8, 509), (3, 100), 0)
def zxg7 : zSig := ([.inl (.ofNat 0, .ofNat 0)], some 4, [], [([(0, .inr (.inl 43))], none, [], [])], false, (8, 509), (3, 100), 0)
def zxg8 : zSig := ([.inl (.ofNat 0, .ofNat 0), .inr (.inl 24), .inr (.inl 43)], some 5, [], [([(0, .inr (.inl 44))], none, [], [])], false, (0, 0), (1, 12), 0)
def zxg9 : zSig := ([.inl (.ofNat 0, .ofNat 0)], some 6, [], [([(0, .inr (.inl 46))], none, [], [])], false, (1, 8), (1, 12), 0)
def zxg10 : zSig := ([.inl (.ofNat 0, .ofNat 0)], some 6, [], [([(0, .inr (.inl 48))], none, [], [])], false, (1, 8), (1, 12), 0)
def zxg11 : zSig := ([.inl (.ofNat 0, .ofNat 0), .inr (.inl 5), .inr (.inl 34)], some 7, [], [([(0, .inr (.inl 52))], none, [], [])], false, (3, 72), (1, 12), 0)
def zxg12 : zSig := ([.inl (.ofNat 0, .ofNat 0), .inr (.inl 5), .inr (.inl 34)], some 7, [], [([(0, .inr (.inl 56))], none, [], [])], false, (3, 72), (1, 12), 0)
def zxg13 : zSig := ([.inl (.ofNat 0, .ofNat 0), .inr (.inl 46), .inr (.inl 49)], some 8, [], [([(0, .inr (.inl 60))], none, [], [])], false, (3, 104), (1, 12), 0)
def zxg14 : zSig := ([.inl (.ofNat 0, .ofNat 0)], some 9, [], [([(0, .inr (.inl 70))], none, [], [])], false, (9, 2232), (1, 12), 0)
def zxg15 : zSig := ([.inl (.ofNat 0, .ofNat 0), .inr (.inl 5)], some 10, [], [([(0, .inr (.inl 76))], none, [], [])], false, (5, 636), (1, 12), 0)
def zxg16 : zSig := ([.inl (.ofNat 0, .ofNat 0)], some 11, [], [([(0, .inr (.inl 84))], none, [], [])], false, (7, 2104), (1, 12), 0)
def zxg17 : zSig := ([.inl (.ofNat 0, .ofNat 0)], some 0, [], [([(0, .inr (.inl 86))], none, [], [])], false, (86, 7299), (4, 120), 0)
def zxg18 : zSig := ([.inl (.ofNat 0, .ofNat 0)], some 12, [], [([(0, .inr (.inl 128))], none, [], [((0, 12, 0, some 131), .inl (.ofNat 4, .ofNat 4)), ((0, 12, 0, some 132), .inl (.ofNat 3, .ofNat 3)), ((0, 12, 0, some 133), .inl (.ofNat 1, .ofNat 1))])], false, (41, 36107), (1, 12), 0)
end
section
/-! Certificates. -/
def zxs0 : List (Nat × zSig) := []
def zxe0 : zCe := ((z_KF8, z_KC8, z_KL8, z_KT8, [], [(12, 0), (20, 1), (28, 2), (36, 3), (44, 4)], [(79, 0, 5, .ofNat 0)], some 1), [], 4000)
theorem zxk0 : z_chk z_TYs z_PH z_cl z_FT z_MT zxs0 [] z_PS zxm1 zxg0 zxe0 = true := by decide +kernel
theorem zxo0 : z_OK z_TB z_cl z_FT z_TYs z_PH z_KX zxm1.1 zxm1.2.1 zxm1.2.2.1 zxm1.2.2.2.1 zxg0 := z_meth (mm := zxm1) (ce := zxe0) (SG := zxs0) (RO := []) (PHS := z_PS) (MT := z_MT) zxp1 (z_ks8 _ (fun _ h => List.mem_cons_of_mem _ h) _ _ _ _ (fun j r h h2 => by cases h; cases h2; rfl)) (fun _ _ => rfl) (fun _ _ => zs_KX_p) z_phk (z_fil _ (fun _ h => absurd h List.not_mem_nil)) zxk0
def zxs1 : List (Nat × zSig) := []
def zxe1 : zCe := ((z_KF8, z_KC8, z_KL8, z_KT8, [], [(12, 6), (20, 7), (28, 8), (36, 9), (44, 10)], [(79, 0, 11, .ofNat 0)], some 1), [], 4000)
theorem zxk1 : z_chk z_TYs z_PH z_cl z_FT z_MT zxs1 [] z_PS zxm1 zxg1 zxe1 = true := by decide +kernel
theorem zxo1 : z_OK z_TB z_cl z_FT z_TYs z_PH z_KX zxm1.1 zxm1.2.1 zxm1.2.2.1 zxm1.2.2.2.1 zxg1 := z_meth (mm := zxm1) (ce := zxe1) (SG := zxs1) (RO := []) (PHS := z_PS) (MT := z_MT) zxp1 (z_ks8 _ (fun _ h => List.mem_cons_of_mem _ h) _ _ _ _ (fun j r h h2 => by cases h; cases h2; rfl)) (fun _ _ => rfl) (fun _ _ => zs_KX_p) z_phk (z_fil _ (fun _ h => absurd h List.not_mem_nil)) zxk1
def zxs2 : List (Nat × zSig) := []
def zxe2 : zCe := ((z_KF8, z_KC8, z_KL8, z_KT8, [], [(12, 12), (20, 13), (28, 14), (36, 15), (44, 16)], [(79, 0, 17, .ofNat 0)], some 1), [], 4000)
theorem zxk2 : z_chk z_TYs z_PH z_cl z_FT z_MT zxs2 [] z_PS zxm1 zxg2 zxe2 = true := by decide +kernel
theorem zxo2 : z_OK z_TB z_cl z_FT z_TYs z_PH z_KX zxm1.1 zxm1.2.1 zxm1.2.2.1 zxm1.2.2.2.1 zxg2 := z_meth (mm := zxm1) (ce := zxe2) (SG := zxs2) (RO := []) (PHS := z_PS) (MT := z_MT) zxp1 (z_ks8 _ (fun _ h => List.mem_cons_of_mem _ h) _ _ _ _ (fun j r h h2 => by cases h; cases h2; rfl)) (fun _ _ => rfl) (fun _ _ => zs_KX_p) z_phk (z_fil _ (fun _ h => absurd h List.not_mem_nil)) zxk2
def zxs3 : List (Nat × zSig) := []
def zxe3 : zCe := ((z_KF7, z_KC7, z_KL7, z_KT7, [], [(7, 18), (20, 19)], [(25, 0, 20, .ofNat 0)], some 2), [], 4000)
theorem zxk3 : z_chk z_TYs z_PH z_cl z_FT z_MT zxs3 [] z_PS zxm2 zxg3 zxe3 = true := by decide +kernel
theorem zxo3 : z_OK z_TB z_cl z_FT z_TYs z_PH z_KX zxm2.1 zxm2.2.1 zxm2.2.2.1 zxm2.2.2.2.1 zxg3 := z_meth (mm := zxm2) (ce := zxe3) (SG := zxs3) (RO := []) (PHS := z_PS) (MT := z_MT) zxp2 (z_ks7 _ (fun _ h => List.mem_cons_of_mem _ h) _ _ _ _ (fun j r h h2 => by cases h; cases h2; rfl)) (fun _ _ => rfl) (fun _ _ => zs_KX_p) z_phk (z_fil _ (fun _ h => absurd h List.not_mem_nil)) zxk3
def zxs4 : List (Nat × zSig) := []
def zxe4 : zCe := ((z_KF7, z_KC7, z_KL7, z_KT7, [], [(7, 21), (20, 22)], [(25, 0, 23, .ofNat 0)], some 2), [], 4000)
theorem zxk4 : z_chk z_TYs z_PH z_cl z_FT z_MT zxs4 [] z_PS zxm2 zxg4 zxe4 = true := by decide +kernel
theorem zxo4 : z_OK z_TB z_cl z_FT z_TYs z_PH z_KX zxm2.1 zxm2.2.1 zxm2.2.2.1 zxm2.2.2.2.1 zxg4 := z_meth (mm := zxm2) (ce := zxe4) (SG := zxs4) (RO := []) (PHS := z_PS) (MT := z_MT) zxp2 (z_ks7 _ (fun _ h => List.mem_cons_of_mem _ h) _ _ _ _ (fun j r h h2 => by cases h; cases h2; rfl)) (fun _ _ => rfl) (fun _ _ => zs_KX_p) z_phk (z_fil _ (fun _ h => absurd h List.not_mem_nil)) zxk4
def zxs5 : List (Nat × zSig) := []
def zxe5 : zCe := ((z_KF10, z_KC10, z_KL10, z_KT10, [], [(8, 24)], [(18, 0, 25, .ofNat 0)], some 3), [], 4000)
theorem zxk5 : z_chk z_TYs z_PH z_cl z_FT z_MT zxs5 [] z_PS zxm3 zxg5 zxe5 = true := by decide +kernel
theorem zxo5 : z_OK z_TB z_cl z_FT z_TYs z_PH z_KX zxm3.1 zxm3.2.1 zxm3.2.2.1 zxm3.2.2.2.1 zxg5 := z_meth (mm := zxm3) (ce := zxe5) (SG := zxs5) (RO := []) (PHS := z_PS) (MT := z_MT) zxp3 (z_ks10 _ (fun _ h => List.mem_cons_of_mem _ h) _ _ _ _ (fun j r h h2 => by cases h; cases h2; rfl)) (fun _ _ => rfl) (fun _ _ => zs_KX_p) z_phk (z_fil _ (fun _ h => absurd h List.not_mem_nil)) zxk5
def zxs6 : List (Nat × zSig) := []
def zxe6 : zCe := ((z_KF2, z_KC2, z_KL2, z_KT2, [], [(8, 129), (17, 130), (30, 28), (38, 29), (46, 30), (54, 31), (90, 32), (98, 33)], [], some 4), [], 4000)
theorem zxf6 : zc_okf z_TYs [(129, 26), (130, 27)] = true := by decide +kernel
theorem zxk6 : zc_chk (zs_hk zxg6 85 13) z_TYs z_PH z_cl z_FT z_MT zxs6 [] z_PS zxm4 zxg6 zxe6 [(129, 26), (130, 27)] 4 34 [] = true := by decide +kernel
theorem zxo6 : z_OK z_TB z_cl z_FT z_TYs z_PH z_KX zxm4.1 zxm4.2.1 zxm4.2.2.1 zxm4.2.2.2.1 zxg6 := zc_OK (nw := []) (k0 := .inl (.ofNat 0, .ofNat 0)) (ci := 4) (tau := 34) (mk := (8, 509)) (rm := (3, 100)) (f := [(129, 26), (130, 27)]) (mm := zxm4) (ce := zxe6) (SG := zxs6) (RO := []) (PHS := z_PS) (MT := z_MT) (hk := (zs_hk zxg6 85 13)) zxp4 (z_ks2 _ (fun _ h => List.mem_cons_of_mem _ h) _ _ _ _ (fun j r h h2 => by cases h; cases h2; rfl)) (fun _ _ => rfl) (fun _ _ => zs_KX_p) z_phk (z_fil _ (fun _ h => absurd h List.not_mem_nil)) (zs_hk_ok (k := 48) (n := 13) (i := 50) (tx := "huimrcknsexyd") (fun _ _ _ _ h => h.1) zs_wt (fun v hv => (List.mem_filter.mp hv).2) (by decide) (List.mem_filter.mpr ⟨List.mem_of_getElem? (i := 254) (by decide +kernel), rfl⟩) (by decide +kernel) (by decide +kernel) ⟨by decide, by decide⟩) rfl zxf6 zxk6
def zxs7 : List (Nat × zSig) := []
def zxe7 : zCe := ((z_KF2, z_KC2, z_KL2, z_KT2, [], [(8, 129), (17, 130), (30, 37), (38, 38), (46, 39), (54, 40), (90, 41), (98, 42)], [], some 4), [], 4000)
theorem zxf7 : zc_okf z_TYs [(129, 35), (130, 36)] = true := by decide +kernel
theorem zxk7 : zc_chk (zs_hk zxg7 85 13) z_TYs z_PH z_cl z_FT z_MT zxs7 [] z_PS zxm4 zxg7 zxe7 [(129, 35), (130, 36)] 4 43 [] = true := by decide +kernel
theorem zxo7 : z_OK z_TB z_cl z_FT z_TYs z_PH z_KX zxm4.1 zxm4.2.1 zxm4.2.2.1 zxm4.2.2.2.1 zxg7 := zc_OK (nw := []) (k0 := .inl (.ofNat 0, .ofNat 0)) (ci := 4) (tau := 43) (mk := (8, 509)) (rm := (3, 100)) (f := [(129, 35), (130, 36)]) (mm := zxm4) (ce := zxe7) (SG := zxs7) (RO := []) (PHS := z_PS) (MT := z_MT) (hk := (zs_hk zxg7 85 13)) zxp4 (z_ks2 _ (fun _ h => List.mem_cons_of_mem _ h) _ _ _ _ (fun j r h h2 => by cases h; cases h2; rfl)) (fun _ _ => rfl) (fun _ _ => zs_KX_p) z_phk (z_fil _ (fun _ h => absurd h List.not_mem_nil)) (zs_hk_ok (k := 48) (n := 13) (i := 50) (tx := "huimrcknsexyd") (fun _ _ _ _ h => h.1) zs_wt (fun v hv => (List.mem_filter.mp hv).2) (by decide) (List.mem_filter.mpr ⟨List.mem_of_getElem? (i := 254) (by decide +kernel), rfl⟩) (by decide +kernel) (by decide +kernel) ⟨by decide, by decide⟩) rfl zxf7 zxk7
def zxs8 : List (Nat × zSig) := []
def zxe8 : zCe := ((z_KF3, z_KC3, z_KL3, z_KT3, [], [], [(29, 0, 44, .ofNat 0)], some 5), [], 4000)
theorem zxk8 : z_chk z_TYs z_PH z_cl z_FT z_MT zxs8 [] z_PS zxm7 zxg8 zxe8 = true := by decide +kernel
theorem zxo8 : z_OK z_TB z_cl z_FT z_TYs z_PH z_KX zxm7.1 zxm7.2.1 zxm7.2.2.1 zxm7.2.2.2.1 zxg8 := z_meth (mm := zxm7) (ce := zxe8) (SG := zxs8) (RO := []) (PHS := z_PS) (MT := z_MT) zxp7 (z_ks3 _ (fun _ h => List.mem_cons_of_mem _ h) _ _ _ _ (fun j r h h2 => by cases h; cases h2; rfl)) (fun _ _ => rfl) (fun _ _ => zs_KX_p) z_phk (z_fil _ (fun _ h => absurd h List.not_mem_nil)) zxk8
def zxs9 : List (Nat × zSig) := []
def zxe9 : zCe := ((z_KF9, z_KC9, z_KL9, z_KT9, [], [(17, 45)], [(22, 0, 46, .ofNat 0)], some 6), [], 4000)
theorem zxk9 : z_chk z_TYs z_PH z_cl z_FT z_MT zxs9 [] z_PS zxm8 zxg9 zxe9 = true := by decide +kernel
theorem zxo9 : z_OK z_TB z_cl z_FT z_TYs z_PH z_KX zxm8.1 zxm8.2.1 zxm8.2.2.1 zxm8.2.2.2.1 zxg9 := z_meth (mm := zxm8) (ce := zxe9) (SG := zxs9) (RO := []) (PHS := z_PS) (MT := z_MT) zxp8 (z_ks9 _ (fun _ h => List.mem_cons_of_mem _ h) _ _ _ _ (fun j r h h2 => by cases h; cases h2; rfl)) (fun _ _ => rfl) (fun _ _ => zs_KX_p) z_phk (z_fil _ (fun _ h => absurd h List.not_mem_nil)) zxk9
def zxs10 : List (Nat × zSig) := []
def zxe10 : zCe := ((z_KF9, z_KC9, z_KL9, z_KT9, [], [(17, 47)], [(22, 0, 48, .ofNat 0)], some 6), [], 4000)
theorem zxk10 : z_chk z_TYs z_PH z_cl z_FT z_MT zxs10 [] z_PS zxm8 zxg10 zxe10 = true := by decide +kernel
theorem zxo10 : z_OK z_TB z_cl z_FT z_TYs z_PH z_KX zxm8.1 zxm8.2.1 zxm8.2.2.1 zxm8.2.2.2.1 zxg10 := z_meth (mm := zxm8) (ce := zxe10) (SG := zxs10) (RO := []) (PHS := z_PS) (MT := z_MT) zxp8 (z_ks9 _ (fun _ h => List.mem_cons_of_mem _ h) _ _ _ _ (fun j r h h2 => by cases h; cases h2; rfl)) (fun _ _ => rfl) (fun _ _ => zs_KX_p) z_phk (z_fil _ (fun _ h => absurd h List.not_mem_nil)) zxk10
def zxs11 : List (Nat × zSig) := []
def zxe11 : zCe := ((z_KF11, z_KC11, z_KL11, z_KT11, [], [(22, 49), (40, 50), (48, 51)], [(63, 0, 52, .ofNat 0)], some 7), [], 4000)
theorem zxk11 : z_chk z_TYs z_PH z_cl z_FT z_MT zxs11 [] z_PS zxm9 zxg11 zxe11 = true := by decide +kernel
theorem zxo11 : z_OK z_TB z_cl z_FT z_TYs z_PH z_KX zxm9.1 zxm9.2.1 zxm9.2.2.1 zxm9.2.2.2.1 zxg11 := z_meth (mm := zxm9) (ce := zxe11) (SG := zxs11) (RO := []) (PHS := z_PS) (MT := z_MT) zxp9 (z_ks11 _ (fun _ h => List.mem_cons_of_mem _ h) _ _ _ _ (fun j r h h2 => by cases h; cases h2; rfl)) (fun _ _ => rfl) (fun _ _ => zs_KX_p) z_phk (z_fil _ (fun _ h => absurd h List.not_mem_nil)) zxk11
def zxs12 : List (Nat × zSig) := []
def zxe12 : zCe := ((z_KF11, z_KC11, z_KL11, z_KT11, [], [(22, 53), (40, 54), (48, 55)], [(63, 0, 56, .ofNat 0)], some 7), [], 4000)
theorem zxk12 : z_chk z_TYs z_PH z_cl z_FT z_MT zxs12 [] z_PS zxm9 zxg12 zxe12 = true := by decide +kernel
theorem zxo12 : z_OK z_TB z_cl z_FT z_TYs z_PH z_KX zxm9.1 zxm9.2.1 zxm9.2.2.1 zxm9.2.2.2.1 zxg12 := z_meth (mm := zxm9) (ce := zxe12) (SG := zxs12) (RO := []) (PHS := z_PS) (MT := z_MT) zxp9 (z_ks11 _ (fun _ h => List.mem_cons_of_mem _ h) _ _ _ _ (fun j r h h2 => by cases h; cases h2; rfl)) (fun _ _ => rfl) (fun _ _ => zs_KX_p) z_phk (z_fil _ (fun _ h => absurd h List.not_mem_nil)) zxk12
def zxs13 : List (Nat × zSig) := []
def zxe13 : zCe := ((z_KF4, z_KC4, z_KL4, z_KT4, [], [(7, 57), (15, 58), (23, 59)], [(48, 0, 60, .ofNat 0)], some 8), [], 4000)
theorem zxk13 : z_chk z_TYs z_PH z_cl z_FT z_MT zxs13 [] z_PS zxm10 zxg13 zxe13 = true := by decide +kernel
theorem zxo13 : z_OK z_TB z_cl z_FT z_TYs z_PH z_KX zxm10.1 zxm10.2.1 zxm10.2.2.1 zxm10.2.2.2.1 zxg13 := z_meth (mm := zxm10) (ce := zxe13) (SG := zxs13) (RO := []) (PHS := z_PS) (MT := z_MT) zxp10 (z_ks4 _ (fun _ h => List.mem_cons_of_mem _ h) _ _ _ _ (fun j r h h2 => by cases h; cases h2; rfl)) (fun _ _ => rfl) (fun _ _ => zs_KX_p) z_phk (z_fil _ (fun _ h => absurd h List.not_mem_nil)) zxk13
def zxs14 : List (Nat × zSig) := []
def zxe14 : zCe := ((z_KF6, z_KC6, z_KL6, z_KT6, [], [(27, 61), (36, 62), (45, 63), (54, 64), (63, 65), (82, 66), (91, 67), (100, 68), (109, 69)], [(114, 0, 70, .ofNat 0)], some 9), [], 4000)
theorem zxk14 : z_chk z_TYs z_PH z_cl z_FT z_MT zxs14 [] z_PS zxm11 zxg14 zxe14 = true := by decide +kernel
theorem zxo14 : z_OK z_TB z_cl z_FT z_TYs z_PH z_KX zxm11.1 zxm11.2.1 zxm11.2.2.1 zxm11.2.2.2.1 zxg14 := z_meth (mm := zxm11) (ce := zxe14) (SG := zxs14) (RO := []) (PHS := z_PS) (MT := z_MT) zxp11 (z_ks6 _ (fun _ h => List.mem_cons_of_mem _ h) _ _ _ _ (fun j r h h2 => by cases h; cases h2; rfl)) (fun _ _ => rfl) (fun _ _ => zs_KX_p) z_phk (z_fil _ (fun _ h => absurd h List.not_mem_nil)) zxk14
def zxs15 : List (Nat × zSig) := []
def zxe15 : zCe := ((z_KF5, z_KC5, z_KL5, z_KT5, [], [(8, 71), (17, 72), (25, 73), (38, 74), (46, 75)], [(56, 0, 76, .ofNat 0)], some 10), [], 4000)
theorem zxk15 : z_chk z_TYs z_PH z_cl z_FT z_MT zxs15 [] z_PS zxm12 zxg15 zxe15 = true := by decide +kernel
theorem zxo15 : z_OK z_TB z_cl z_FT z_TYs z_PH z_KX zxm12.1 zxm12.2.1 zxm12.2.2.1 zxm12.2.2.2.1 zxg15 := z_meth (mm := zxm12) (ce := zxe15) (SG := zxs15) (RO := []) (PHS := z_PS) (MT := z_MT) zxp12 (z_ks5 _ (fun _ h => List.mem_cons_of_mem _ h) _ _ _ _ (fun j r h h2 => by cases h; cases h2; rfl)) (fun _ _ => rfl) (fun _ _ => zs_KX_p) z_phk (z_fil _ (fun _ h => absurd h List.not_mem_nil)) zxk15
def zxs16 : List (Nat × zSig) := []
def zxe16 : zCe := ((z_KF1, z_KC1, z_KL1, z_KT1, [], [(7, 77), (15, 78), (23, 79), (31, 80), (39, 81), (48, 82), (57, 83)], [(62, 0, 84, .ofNat 0)], some 11), [], 4000)
theorem zxk16 : z_chk z_TYs z_PH z_cl z_FT z_MT zxs16 [] z_PS zxm13 zxg16 zxe16 = true := by decide +kernel
theorem zxo16 : z_OK z_TB z_cl z_FT z_TYs z_PH z_KX zxm13.1 zxm13.2.1 zxm13.2.2.1 zxm13.2.2.2.1 zxg16 := z_meth (mm := zxm13) (ce := zxe16) (SG := zxs16) (RO := []) (PHS := z_PS) (MT := z_MT) zxp13 (z_ks1 _ (fun _ h => List.mem_cons_of_mem _ h) _ _ _ _ (fun j r h h2 => by cases h; cases h2; rfl)) (fun _ _ => rfl) (fun _ _ => zs_KX_p) z_phk (z_fil _ (fun _ h => absurd h List.not_mem_nil)) zxk16
def zxs17 : List (Nat × zSig) := [(1, zxg0), (1, zxg1), (1, zxg2), (2, zxg3), (2, zxg4), (3, zxg5), (4, zxg6), (4, zxg7), (7, zxg8), (8, zxg9), (8, zxg10), (9, zxg11), (9, zxg12), (10, zxg13), (11, zxg14), (12, zxg15), (13, zxg16)]
def zxe17 : zCe := ((z_KF0, z_KC0, z_KL0, z_KT0, [(9, 0), (20, 1), (31, 2), (42, 3), (53, 4), (69, 5), (80, 6), (91, 7), (113, 8), (124, 9), (135, 10), (154, 11), (173, 12), (195, 13), (206, 14), (221, 15), (232, 16)], [(242, 85)], [(247, 0, 86, .ofNat 0)], some 0), [], 4000)
theorem zxk17 : z_chk z_TYs z_PH z_cl z_FT z_MT zxs17 [] z_PS zxm0 zxg17 zxe17 = true := by decide +kernel
theorem zxo17 : z_OK z_TB z_cl z_FT z_TYs z_PH z_KX zxm0.1 zxm0.2.1 zxm0.2.2.1 zxm0.2.2.2.1 zxg17 := z_meth (mm := zxm0) (ce := zxe17) (SG := zxs17) (RO := []) (PHS := z_PS) (MT := z_MT) zxp0 (z_ks0 _ (fun _ h => List.mem_cons_of_mem _ h) _ _ _ _ (fun j r h h2 => by cases h; cases h2; rfl)) (fun _ _ => rfl) (fun _ _ => zs_KX_p) z_phk (z_fil _ (List.forall_mem_cons.mpr ⟨z_lnk zxt1 zxo0, List.forall_mem_cons.mpr ⟨z_lnk zxt1 zxo1, List.forall_mem_cons.mpr ⟨z_lnk zxt1 zxo2, List.forall_mem_cons.mpr ⟨z_lnk zxt2 zxo3, List.forall_mem_cons.mpr ⟨z_lnk zxt2 zxo4, List.forall_mem_cons.mpr ⟨z_lnk zxt3 zxo5, List.forall_mem_cons.mpr ⟨z_lnk zxt4 zxo6, List.forall_mem_cons.mpr ⟨z_lnk zxt4 zxo7, List.forall_mem_cons.mpr ⟨z_lnk zxt7 zxo8, List.forall_mem_cons.mpr ⟨z_lnk zxt8 zxo9, List.forall_mem_cons.mpr ⟨z_lnk zxt8 zxo10, List.forall_mem_cons.mpr ⟨z_lnk zxt9 zxo11, List.forall_mem_cons.mpr ⟨z_lnk zxt9 zxo12, List.forall_mem_cons.mpr ⟨z_lnk zxt10 zxo13, List.forall_mem_cons.mpr ⟨z_lnk zxt11 zxo14, List.forall_mem_cons.mpr ⟨z_lnk zxt12 zxo15, List.forall_mem_cons.mpr ⟨z_lnk zxt13 zxo16, fun _ h => absurd h List.not_mem_nil⟩⟩⟩⟩⟩⟩⟩⟩⟩⟩⟩⟩⟩⟩⟩⟩⟩)) zxk17
def zxs18 : List (Nat × zSig) := []
def zxe18 : zCe := ((z_KF13, z_KC13, z_KL13, z_KT13, [], [(8, 87), (17, 88), (26, 89), (35, 90), (44, 91), (53, 92), (61, 93), (69, 94), (77, 95), (85, 96), (94, 97), (102, 98), (110, 99), (118, 100), (126, 101), (135, 102), (143, 103), (151, 104), (159, 105), (167, 106), (175, 107), (183, 108), (191, 109), (199, 110), (207, 111), (216, 112), (225, 113), (233, 114), (241, 115), (249, 116), (257, 117), (265, 118), (273, 119), (282, 120), (291, 121), (300, 122), (309, 123), (317, 124), (325, 125), (333, 126), (342, 127)], [], some 12), [], 4000)
theorem zxf18 : zc_okf z_TYs [] = true := by decide +kernel
theorem zxk18 : zc_chk z_non z_TYs z_PH z_cl z_FT z_MT zxs18 [] z_PS zxm198 zxg18 zxe18 [] 12 128 [((0, 12, 0, some 131), .inl (.ofNat 4, .ofNat 4)), ((0, 12, 0, some 132), .inl (.ofNat 3, .ofNat 3)), ((0, 12, 0, some 133), .inl (.ofNat 1, .ofNat 1))] = true := by decide +kernel
theorem zxo18 : z_OK z_TB z_cl z_FT z_TYs z_PH z_KX zxm198.1 zxm198.2.1 zxm198.2.2.1 zxm198.2.2.2.1 zxg18 := zc_OK (nw := [((0, 12, 0, some 131), .inl (.ofNat 4, .ofNat 4)), ((0, 12, 0, some 132), .inl (.ofNat 3, .ofNat 3)), ((0, 12, 0, some 133), .inl (.ofNat 1, .ofNat 1))]) (k0 := .inl (.ofNat 0, .ofNat 0)) (ci := 12) (tau := 128) (mk := (41, 36107)) (rm := (1, 12)) (f := []) (mm := zxm198) (ce := zxe18) (SG := zxs18) (RO := []) (PHS := z_PS) (MT := z_MT) (hk := z_non) zxp198 (z_ks13 _ (fun _ h => List.mem_cons_of_mem _ h) _ _ _ _ (fun j r h h2 => by cases h; cases h2; rfl)) (fun _ _ => rfl) (fun _ _ => zs_KX_p) z_phk (z_fil _ (fun _ h => absurd h List.not_mem_nil)) z_non_ok rfl zxf18 zxk18
end
section
/-! The law up to its head. -/
def z_sL : List (Nat × zSig) := [(0, zxg17), (198, zxg18)]
def z_eL : zCe := ((z_KF12, z_KC12, z_KL12, z_KT12, [(4, 0), (12, 1)], [], [], none), [], 4000)
def z_nw : List (zLoc × zV) := [((0, 12, 0, some 131), .inl (.ofNat 4, .ofNat 4)), ((0, 12, 0, some 132), .inl (.ofNat 3, .ofNat 3)), ((0, 12, 0, some 133), .inl (.ofNat 1, .ofNat 1))]
theorem z_kS : zy_chk z_TYs z_PH z_cl z_FT z_MT z_sL z_PS room_1 4 600000 7302250 code z_eL 18 86 128 (129, 43489) z_nw ((3072 : Nat) : Int) = true := by decide +kernel
theorem z_kSL (Ts : List Cond) (hTs : ∀ w ∈ z_TB, w ∈ Ts) : z_KS Ts z_TB z_cl z_FT "StarTalesLaw" z_MT z_eL.1 := z_ks12 Ts hTs _ _ _ _ (fun j r h _ => by cases h)
set_option maxRecDepth 100000 in
theorem z_oL : ∀ g ∈ (k_CA z_eL.1).filterMap (fun a => z_sL[a.2]?), ∀ m2, z_MT[g.1]? = some m2 → z_OK z_TB z_cl z_FT z_TYs z_PH z_KX m2.1 m2.2.1 m2.2.2.1 m2.2.2.2.1 g.2 := z_fil _ (List.forall_mem_cons.mpr ⟨z_lnk zxt0 zxo17, List.forall_mem_cons.mpr ⟨z_lnk zxt198 zxo18, fun _ h => absurd h List.not_mem_nil⟩⟩)
end
section
/-! From typed cells to named ones: as many types as cells. -/
theorem zy_pig : ∀ (n : Nat) (w : Nat → Nat), (∀ i, i < n → w i < n) → (∀ i j, i < n → j < n → w i = w j → i = j) → ∀ k, k < n → ∃ i, i < n ∧ w i = k := by
  intro n
  induction n with
  | zero => intro w _ _ k hk; omega
  | succ n ih =>
    intro w hw hi k hk
    have hv := hw n (Nat.lt_succ_self n)
    have inj : ∀ i j, i < n → j < n → (if w i = n then w n else w i) = (if w j = n then w n else w j) → i = j := by
      intro i j h1 h2 h
      by_cases a : w i = n
      · by_cases b : w j = n
        · exact hi i j (by omega) (by omega) (a.trans b.symm)
        · rw [if_pos a, if_neg b] at h
          have := hi n j (by omega) (by omega) h
          omega
      · by_cases b : w j = n
        · rw [if_neg a, if_pos b] at h
          have := hi i n (by omega) (by omega) h
          omega
        · rw [if_neg a, if_neg b] at h
          exact hi i j (by omega) (by omega) h
    have low : ∀ i, i < n → (if w i = n then w n else w i) < n := by
      intro i h1
      have h2 := hw i (by omega)
      by_cases a : w i = n
      · rw [if_pos a]
        have : w n ≠ n := fun e => by
          have := hi i n (by omega) (by omega) (a.trans e.symm)
          omega
        omega
      · rw [if_neg a]; omega
    have sur := ih (fun i => if w i = n then w n else w i) low inj
    by_cases ek : k = n
    · subst ek
      by_cases ev : w k = k
      · exact ⟨k, by omega, ev⟩
      · obtain ⟨i, i1, i2⟩ := sur (w k) (by omega)
        by_cases a : w i = k
        · exact ⟨i, by omega, a⟩
        · have i2 : (if w i = k then w k else w i) = w k := i2
          rw [if_neg a] at i2
          have := hi i k (by omega) (by omega) i2
          omega
    · obtain ⟨i, i1, i2⟩ := sur k (by omega)
      by_cases a : w i = n
      · have i2 : (if w i = n then w n else w i) = k := i2
        rw [if_pos a] at i2
        exact ⟨n, by omega, i2⟩
      · have i2 : (if w i = n then w n else w i) = k := i2
        rw [if_neg a] at i2
        exact ⟨i, by omega, i2⟩
/-- types that are come to: child, parent, field -/
def zy_go (TY : List zTy) : List (Nat × Nat × Nat) → List Nat → Option (List Nat)
  | [], S => some S
  | q :: P, S => cond (S.any (fun t => Nat.beq t q.2.1) && (match TY[q.2.1]? with
    | some (.inl o) => (match o.2[q.2.2]? with
      | some (.inr (.inl u)) => Nat.beq u q.1
      | _ => false)
    | _ => false)) (zy_go TY P (q.1 :: S)) none
section ZYREP
variable {OB : Nat → Nat} {D : va_G} {DA : Nat → ClassId} {cl : List vw_C} {TY : List zTy} {T : zTp} {H : Heap} {sz N : Nat} {y : zNL} {NT : List Nat} {F0 : List zNV}
theorem zy_go_ok (hh : ∀ a t, T a = some t → ∃ ty, TY[t]? = some ty ∧ z_cell OB D DA cl T H a ty) : ∀ {P : List (Nat × Nat × Nat)} {S S2 : List Nat}, zy_go TY P S = some S2 → (∀ t ∈ S, ∃ a, T a = some t) → ∀ t ∈ S2, ∃ a, T a = some t
  | [], S, S2, h, hS => by cases h; exact hS
  | q :: P, S, S2, h, hS => by
    unfold zy_go at h
    obtain ⟨hc, h⟩ := zi_if h
    rw [Bool.and_eq_true] at hc
    obtain ⟨c1, c2⟩ := hc
    obtain ⟨t, ht, ht2⟩ := List.any_eq_true.mp c1
    have e := z_beq ht2
    subst e
    obtain ⟨a, ha⟩ := hS _ ht
    obtain ⟨ty, e1, e2⟩ := hh a _ ha
    rw [e1] at c2
    match ty, e2, c2 with
    | .inl o, ⟨r, r1, r2, V, r3, r4⟩, c2 =>
      have c2 : (match o.2[q.2.2]? with
        | some (.inr (.inl u)) => Nat.beq u q.1
        | _ => false) = true := c2
      split at c2
      · rename_i u hu
        obtain ⟨a2, -, h2⟩ := r4 _ _ hu
        refine zy_go_ok hh h fun t ht => ?_
        rcases List.mem_cons.mp ht with rfl | ht
        · exact ⟨a2, by rw [← z_beq c2]; exact h2⟩
        · exact hS t ht
      · cases c2
theorem zy_inj (hge : ∀ a t, T a = some t → sz ≤ a) (hlt : ∀ a t, T a = some t → a < H.size) (hsz : H.size ≤ sz + N) (hN : ∀ t, t < N → ∃ a, T a = some t) : ∀ a b t, T a = some t → T b = some t → a = b := by
  have hw : ∀ t, ∃ a, t < N → T a = some t := fun t => by
    by_cases h : t < N
    · obtain ⟨a, ha⟩ := hN t h; exact ⟨a, fun _ => ha⟩
    · exact ⟨0, fun h2 => absurd h2 h⟩
  obtain ⟨w, hw⟩ := Classical.axiomOfChoice hw
  have sur := zy_pig N (fun t => w t - sz) (fun i hi => by
    have h1 := hge _ _ (hw i hi)
    have h2 := hlt _ _ (hw i hi)
    show w i - sz < N
    omega) (fun i j hi hj e => by
    have e : w i - sz = w j - sz := e
    have h1 := hge _ _ (hw i hi)
    have h2 := hge _ _ (hw j hj)
    have e2 : w i = w j := by omega
    have h3 := hw i hi
    rw [e2, hw j hj] at h3
    exact (Option.some.inj h3).symm)
  have at_ : ∀ a t, T a = some t → a = w t := fun a t ha => by
    have h1 := hge _ _ ha
    have h2 := hlt _ _ ha
    obtain ⟨i, i1, i2⟩ := sur (a - sz) (by omega)
    have i2 : w i - sz = a - sz := i2
    have h3 := hge _ _ (hw i i1)
    have e : w i = a := by omega
    have h4 := hw i i1
    rw [e, ha] at h4
    cases h4
    exact e.symm
  exact fun a b t ha hb => (at_ a t ha).trans (at_ b t hb).symm
def zy_val (TY : List zTy) (NT : List Nat) (c : zV) (v : zNV) : Bool := match c, v with
  | .inl r, .inl x => z_ile x r.1 && z_ile r.2 x
  | .inl _, .inr k => Nat.ble 1000 k
  | .inr (.inl u), .inr k => Nat.ble 1000 k || (match NT[k]? with
    | some t => Nat.beq t u
    | none => false)
  | _, _ => false
def zy_obj (TY : List zTy) (NT : List Nat) (c ci : Nat) : Option (List zV) := match NT[c]? with
  | some t => (match TY[t]? with
    | some (.inl o) => cond (Nat.beq o.1 ci) (some o.2) none
    | _ => none)
  | none => none
def zy_cov (segs : List ((Nat × Nat) × zV)) (n : Nat) : Bool := segs.any (fun s => Nat.beq s.1.1 0 && Nat.ble n (s.1.2 + 1) && (match s.2 with
  | .inl _ => true
  | _ => false))
def zy_arr (TY : List zTy) (NT : List Nat) (c kd n : Nat) : Bool := match NT[c]? with
  | some t => (match TY[t]? with
    | some (.inr q) => (Nat.beq q.1 kd && (Nat.beq q.2.1.1 n && Nat.beq q.2.1.2 n)) && (match kd with
      | 2 => q.2.2.any (fun s => Nat.beq s.1.1 0 && Nat.ble n (s.1.2 + 1) && (match s.2 with
        | .inr (.inr 0) => true
        | _ => false))
      | _ => zy_cov q.2.2 n)
    | _ => false)
  | none => false
def zy_ok (TY : List zTy) (y : zNL) (NT : List Nat) (F0 : List zNV) : Bool :=
  (Nat.beq NT.length (n_N y) && ((List.range (n_N y)).all (fun a => (List.range (n_N y)).all (fun b => Nat.beq a b || !(Nat.beq (NT.getD a 0) (NT.getD b 0)))))) &&
  ((n_O y).all (fun q => (zy_obj TY NT q.1 q.2).isSome) &&
  ((n_I y).all (fun q => match zy_obj TY NT q.1 q.2.1, zv_l F0 q.2.2.2 with
    | some fl, some v => (match fl[q.2.2.1]? with
      | some c => zy_val TY NT c v
      | none => false)
    | _, _ => false) &&
  ((n_R y).all (fun q => match zy_obj TY NT q.1 q.2.1, NT[q.2.2.2]? with
    | some fl, some t => (match fl[q.2.2.1]? with
      | some (.inr (.inl u)) => Nat.beq u t
      | _ => false)
    | _, _ => false) &&
  (n_A y).all (fun q => zy_arr TY NT q.1 q.2.1 q.2.2.1))))
end ZYREP
end
section
/-! The layout with both laws whole; over it all methods again. -/
abbrev zyE : zNL := (129, [(0, 0), (1, 12), (2, 1), (8, 2), (11, 3), (13, 5), (14, 4), (21, 4), (22, 6), (24, 6), (25, 7), (36, 8), (41, 1), (47, 10), (53, 11), (62, 9), (72, 7), (77, 1), (83, 2)], [(2, 1, 0, 0), (2, 1, 6, 1), (2, 1, 8, 2), (2, 1, 9, 3), (2, 1, 10, 4), (8, 2, 1, 5), (11, 3, 1, 6), (0, 0, 8, 7), (0, 0, 7, 8), (13, 5, 1, 9), (13, 5, 2, 10), (13, 5, 3, 11), (13, 5, 4, 12), (14, 4, 2, 13), (14, 4, 7, 14), (14, 4, 8, 15), (14, 4, 9, 16), (14, 4, 10, 17), (14, 4, 11, 18), (0, 0, 11, 19), (0, 0, 10, 20), (22, 6, 0, 21), (22, 6, 1, 22), (25, 7, 0, 23), (25, 7, 1, 24), (25, 7, 6, 25), (25, 7, 2, 26), (25, 7, 3, 27), (2, 1, 7, 28), (25, 7, 4, 29), (21, 4, 8, 30), (25, 7, 7, 31), (21, 4, 7, 32), (21, 4, 14, 33), (21, 4, 10, 34), (21, 4, 9, 35), (21, 4, 11, 36), (24, 6, 0, 37), (24, 6, 1, 38), (36, 8, 3, 39), (36, 8, 4, 40), (36, 8, 6, 41), (41, 1, 0, 42), (41, 1, 6, 43), (41, 1, 7, 44), (41, 1, 8, 45), (41, 1, 9, 46), (41, 1, 10, 47), (2, 1, 11, 48), (41, 1, 11, 49), (47, 10, 3, 50), (62, 9, 0, 51), (62, 9, 1, 52), (62, 9, 9, 53), (62, 9, 10, 54), (62, 9, 2, 55), (62, 9, 3, 56), (72, 7, 0, 57), (72, 7, 1, 58), (72, 7, 6, 59), (72, 7, 2, 60), (72, 7, 3, 61), (72, 7, 4, 62), (72, 7, 7, 63), (36, 8, 5, 64), (77, 1, 0, 65), (77, 1, 6, 66), (77, 1, 7, 67), (77, 1, 8, 68), (77, 1, 9, 69), (77, 1, 10, 70), (77, 1, 11, 71), (83, 2, 1, 72), (0, 0, 5, 73), (1, 12, 4, 74), (1, 12, 5, 75), (1, 12, 6, 76), (1, 12, 9, 77), (1, 12, 11, 78), (1, 12, 8, 79), (1, 12, 10, 80), (1, 12, 7, 81), (1, 12, 12, 82), (1, 12, 13, 83), (1, 12, 27, 84), (1, 12, 29, 85), (1, 12, 30, 86), (1, 12, 32, 87), (1, 12, 31, 88), (1, 12, 33, 89), (1, 12, 41, 90), (1, 12, 48, 91), (1, 12, 55, 92), (1, 12, 56, 93), (1, 12, 57, 94), (1, 12, 58, 95), (1, 12, 63, 96), (14, 4, 14, 97), (21, 4, 2, 98)], [(0, 0, 0, 2), (2, 1, 1, 3), (2, 1, 2, 4), (2, 1, 3, 5), (2, 1, 4, 6), (2, 1, 5, 7), (0, 0, 3, 8), (8, 2, 2, 9), (8, 2, 0, 10), (0, 0, 6, 11), (11, 3, 0, 12), (0, 0, 9, 13), (14, 4, 0, 15), (14, 4, 1, 16), (14, 4, 3, 17), (14, 4, 4, 18), (14, 4, 5, 19), (14, 4, 6, 20), (13, 5, 0, 12), (22, 6, 2, 23), (0, 0, 12, 25), (25, 7, 8, 26), (21, 4, 12, 27), (21, 4, 3, 28), (21, 4, 5, 29), (21, 4, 6, 30), (21, 4, 0, 31), (21, 4, 13, 32), (21, 4, 1, 33), (25, 7, 5, 34), (25, 7, 9, 35), (0, 0, 14, 36), (36, 8, 0, 37), (24, 6, 2, 38), (36, 8, 1, 39), (36, 8, 2, 40), (0, 0, 2, 41), (41, 1, 1, 42), (41, 1, 2, 43), (41, 1, 3, 44), (41, 1, 4, 45), (41, 1, 5, 46), (0, 0, 16, 47), (47, 10, 0, 48), (47, 10, 1, 49), (47, 10, 4, 50), (47, 10, 5, 51), (47, 10, 6, 2), (47, 10, 2, 52), (0, 0, 17, 53), (53, 11, 0, 54), (53, 11, 1, 55), (53, 11, 2, 56), (53, 11, 3, 57), (53, 11, 4, 58), (21, 4, 4, 59), (53, 11, 5, 60), (53, 11, 6, 61), (0, 0, 15, 62), (62, 9, 12, 63), (62, 9, 14, 64), (62, 9, 13, 65), (62, 9, 4, 66), (62, 9, 5, 67), (62, 9, 6, 68), (62, 9, 7, 69), (62, 9, 11, 70), (62, 9, 8, 71), (0, 0, 13, 72), (72, 7, 8, 73), (72, 7, 5, 74), (72, 7, 9, 75), (0, 0, 18, 76), (0, 0, 1, 77), (77, 1, 1, 78), (77, 1, 2, 79), (77, 1, 3, 80), (77, 1, 4, 81), (77, 1, 5, 82), (0, 0, 4, 83), (83, 2, 0, 84), (83, 2, 2, 85), (1, 12, 0, 86), (1, 12, 3, 87), (1, 12, 16, 88), (1, 12, 17, 89), (1, 12, 18, 90), (1, 12, 15, 91), (1, 12, 14, 92), (1, 12, 19, 93), (1, 12, 20, 94), (1, 12, 21, 95), (1, 12, 22, 96), (1, 12, 23, 97), (1, 12, 24, 98), (1, 12, 26, 99), (1, 12, 25, 100), (1, 12, 28, 101), (1, 12, 36, 102), (1, 12, 37, 103), (1, 12, 34, 104), (1, 12, 35, 105), (1, 12, 38, 106), (1, 12, 39, 107), (1, 12, 40, 108), (1, 12, 44, 109), (1, 12, 43, 110), (1, 12, 42, 111), (1, 12, 45, 112), (1, 12, 46, 113), (1, 12, 47, 114), (1, 12, 49, 115), (1, 12, 50, 116), (1, 12, 51, 117), (1, 12, 1, 118), (1, 12, 52, 119), (1, 12, 54, 120), (1, 12, 53, 121), (1, 12, 59, 122), (1, 12, 60, 123), (1, 12, 61, 124), (1, 12, 62, 125), (1, 12, 2, 126), (14, 4, 12, 127), (14, 4, 13, 128)], [(3, 0, 24, 0), (4, 0, 24, 1), (5, 0, 24, 2), (6, 0, 24, 3), (7, 0, 24, 4), (9, 0, 6, 5), (10, 0, 12, 6), (12, 0, 220, 7), (15, 0, 200, 8), (16, 0, 200, 9), (17, 0, 14, 10), (18, 0, 14, 11), (19, 0, 14, 12), (20, 0, 14, 13), (23, 0, 8, 14), (26, 0, 24, 15), (27, 0, 13, 16), (28, 0, 14, 17), (29, 0, 14, 18), (30, 0, 14, 19), (31, 0, 200, 20), (32, 0, 40, 21), (33, 0, 200, 22), (34, 0, 24, 23), (35, 0, 24, 24), (37, 0, 72, 25), (38, 0, 8, 26), (39, 0, 24, 27), (40, 0, 8, 28), (42, 0, 24, 29), (43, 0, 24, 30), (44, 0, 24, 31), (45, 0, 24, 32), (46, 0, 24, 33), (48, 0, 288, 34), (49, 2, 288, 35), (50, 0, 24, 36), (51, 0, 24, 37), (52, 0, 12, 38), (54, 0, 8, 39), (55, 0, 24, 40), (56, 0, 24, 41), (57, 0, 24, 42), (58, 0, 24, 43), (59, 0, 14, 44), (60, 0, 1000, 45), (61, 0, 1000, 46), (63, 0, 288, 47), (64, 0, 288, 48), (65, 0, 288, 49), (66, 0, 24, 50), (67, 0, 264, 51), (68, 0, 264, 52), (69, 0, 264, 53), (70, 0, 288, 54), (71, 0, 264, 55), (73, 0, 24, 56), (74, 0, 24, 57), (75, 0, 24, 58), (76, 0, 288, 59), (78, 0, 24, 60), (79, 0, 24, 61), (80, 0, 24, 62), (81, 0, 24, 63), (82, 0, 24, 64), (84, 0, 12, 65), (85, 0, 6, 66), (86, 0, 422, 67), (87, 1, 220, 68), (88, 0, 14, 69), (89, 0, 14, 70), (90, 0, 14, 71), (91, 0, 220, 72), (92, 0, 220, 73), (93, 0, 14, 74), (94, 0, 220, 75), (95, 0, 14, 76), (96, 0, 14, 77), (97, 0, 14, 78), (98, 0, 14, 79), (99, 0, 13, 80), (100, 0, 220, 81), (101, 0, 24, 82), (102, 0, 12, 83), (103, 0, 12, 84), (104, 0, 12, 85), (105, 0, 12, 86), (106, 0, 8, 87), (107, 0, 8, 88), (108, 0, 8, 89), (109, 0, 24, 90), (110, 0, 288, 91), (111, 0, 6912, 92), (112, 0, 12, 93), (113, 0, 8, 94), (114, 0, 28, 95), (115, 0, 24, 96), (116, 0, 24, 97), (117, 0, 25000, 98), (118, 0, 422, 99), (119, 0, 288, 100), (120, 0, 288, 101), (121, 0, 288, 102), (122, 0, 24, 103), (123, 0, 12, 104), (124, 0, 12, 105), (125, 0, 288, 106), (126, 0, 422, 107), (127, 0, 13, 108), (128, 0, 40, 109)])
theorem zywE : zv_wf zyE = true := by decide +kernel
theorem zyeE : zv_ek2 zyE = true := by decide +kernel
def zE_Fr (r0 r1 r2 r3 r4 r5 r6 r7 r8 r9 r10 : Nat) (f : Nat → Int) : List zNV := [.inl (f 0), .inl (f 1), .inl (f 2), .inl (f 3), .inl (f 4), .inl (f 5), .inl (f 6), .inr r0, .inr r1, .inl (f 9), .inl (f 10), .inl (f 11), .inr r2, .inl (f 13), .inl (f 14), .inl (f 15), .inl (f 16), .inl (f 17), .inl (f 18), .inr r3, .inr r4, .inl (f 21), .inl (f 22), .inr r5, .inr r6, .inl (f 25), .inl (f 26), .inl (f 27), .inl (f 28), .inl (f 29), .inl (f 30), .inl (f 31), .inl (f 32), .inl (f 33), .inl (f 34), .inl (f 35), .inl (f 36), .inl (f 37), .inl (f 38), .inr r7, .inr r8, .inl (f 41), .inl (f 42), .inl (f 43), .inl (f 44), .inl (f 45), .inl (f 46), .inl (f 47), .inl (f 48), .inl (f 49), .inl (f 50), .inl (f 51), .inl (f 52), .inl (f 53), .inl (f 54), .inl (f 55), .inl (f 56), .inr r9, .inr r10, .inl (f 59), .inl (f 60), .inl (f 61), .inl (f 62), .inl (f 63), .inl (f 64), .inl (f 65), .inl (f 66), .inl (f 67), .inl (f 68), .inl (f 69), .inl (f 70), .inl (f 71), .inl (f 72), .inl (f 73), .inl (f 74), .inl (f 75), .inl (f 76), .inl (f 77), .inl (f 78), .inl (f 79), .inl (f 80), .inl (f 81), .inl (f 82), .inl (f 83), .inl (f 84), .inl (f 85), .inl (f 86), .inl (f 87), .inl (f 88), .inl (f 89), .inl (f 90), .inl (f 91), .inl (f 92), .inl (f 93), .inl (f 94), .inl (f 95), .inl (f 96), .inl (f 97), .inl (f 98)]
def zE_F (f : Nat → Int) : List zNV := zE_Fr 14 21 1000 22 24 1000 1000 1000 1000 1000 1000 f
def zE_G (g : Nat → Int → Int) : List (Int → Int) := [g 0, g 1, g 2, g 3, g 4, g 5, g 6, g 7, g 8, g 9, g 10, g 11, g 12, g 13, g 14, g 15, g 16, g 17, g 18, g 19, g 20, g 21, g 22, g 23, g 24, g 25, g 26, g 27, g 28, g 29, g 30, g 31, g 32, g 33, g 34, g 35, g 36, g 37, g 38, g 39, g 40, g 41, g 42, g 43, g 44, g 45, g 46, g 47, g 48, g 49, g 50, g 51, g 52, g 53, g 54, g 55, g 56, g 57, g 58, g 59, g 60, g 61, g 62, g 63, g 64, g 65, g 66, g 67, g 68, g 69, g 70, g 71, g 72, g 73, g 74, g 75, g 76, g 77, g 78, g 79, g 80, g 81, g 82, g 83, g 84, g 85, g 86, g 87, g 88, g 89, g 90, g 91, g 92, g 93, g 94, g 95, g 96, g 97, g 98, g 99, g 100, g 101, g 102, g 103, g 104, g 105, g 106, g 107, g 108, g 109]
theorem zE_k : (zv_ek zyL zyE [0, 1, 2, 3, 4, 5, 6, 7, 8, 9, 10, 11, 12, 13, 14, 15, 16, 17, 18, 19, 20, 21, 22, 23, 24, 25, 26, 27, 28, 29, 30, 31, 32, 33, 34, 35, 36, 37, 38, 39, 40, 41, 42, 43, 44, 45, 46, 47, 48, 49, 50, 51, 52, 53, 54, 55, 56, 57, 58, 59, 60, 61, 62, 63, 64, 65, 66, 67, 68, 69, 70, 71, 72, 73, 74, 75, 76, 77, 78, 79, 80, 81, 82, 83, 84, 85, 86, 87, 88, 89, 90, 91, 92, 93, 94, 95, 96, 97, 98, 99, 100, 101, 102, 103, 104, 105, 106, 107, 108, 109, 110, 111, 112, 113, 114, 115, 116, 117, 118, 119, 120, 121, 122, 123, 124, 125, 126] [0, 1, 2, 3, 4, 5, 6, 7, 8, 9, 10, 11, 12, 13, 14, 15, 16, 17, 18, 19, 20, 21, 22, 23, 24, 25, 26, 27, 28, 29, 30, 31, 32, 33, 34, 35, 36, 37, 38, 39, 40, 41, 42, 43, 44, 45, 46, 47, 48, 49, 50, 51, 52, 53, 54, 55, 56, 57, 58, 59, 60, 61, 62, 63, 64, 65, 66, 67, 68, 69, 70, 71, 72, 73, 74, 75, 76, 77, 78, 79, 80, 81, 82, 83, 84, 85, 86, 87, 88, 89, 90, 91, 92, 93, 94, 95, 96] [0, 1, 2, 3, 4, 5, 6, 7, 8, 9, 10, 11, 12, 13, 14, 15, 16, 17, 18, 19, 20, 21, 22, 23, 24, 25, 26, 27, 28, 29, 30, 31, 32, 33, 34, 35, 36, 37, 38, 39, 40, 41, 42, 43, 44, 45, 46, 47, 48, 49, 50, 51, 52, 53, 54, 55, 56, 57, 58, 59, 60, 61, 62, 63, 64, 65, 66, 67, 68, 69, 70, 71, 72, 73, 74, 75, 76, 77, 78, 79, 80, 81, 82, 83, 84, 85, 86, 87, 88, 89, 90, 91, 92, 93, 94, 95, 96, 97, 98, 99, 100, 101, 102, 103, 104, 105, 106, 107] && (zv_pn [0, 1, 2, 3, 4, 5, 6, 7, 8, 9, 10, 11, 12, 13, 14, 15, 16, 17, 18, 19, 20, 21, 22, 23, 24, 25, 26, 27, 28, 29, 30, 31, 32, 33, 34, 35, 36, 37, 38, 39, 40, 41, 42, 43, 44, 45, 46, 47, 48, 49, 50, 51, 52, 53, 54, 55, 56, 57, 58, 59, 60, 61, 62, 63, 64, 65, 66, 67, 68, 69, 70, 71, 72, 73, 74, 75, 76, 77, 78, 79, 80, 81, 82, 83, 84, 85, 86, 87, 88, 89, 90, 91, 92, 93, 94, 95, 96] [some 0, some 1, some 2, some 3, some 4, some 5, some 6, some 7, some 8, some 9, some 10, some 11, some 12, some 13, some 14, some 15, some 16, some 17, some 18, some 19, some 20, some 21, some 22, some 23, some 24, some 25, some 26, some 27, some 28, some 29, some 30, some 31, some 32, some 33, some 34, some 35, some 36, some 37, some 38, some 39, some 40, some 41, some 42, some 43, some 44, some 45, some 46, some 47, some 48, some 49, some 50, some 51, some 52, some 53, some 54, some 55, some 56, some 57, some 58, some 59, some 60, some 61, some 62, some 63, some 64, some 65, some 66, some 67, some 68, some 69, some 70, some 71, some 72, some 73, some 74, some 75, some 76, some 77, some 78, some 79, some 80, some 81, some 82, some 83, some 84, some 85, some 86, some 87, some 88, some 89, some 90, some 91, some 92, some 93, some 94, some 95, some 96, none, none] && zv_pn [0, 1, 2, 3, 4, 5, 6, 7, 8, 9, 10, 11, 12, 13, 14, 15, 16, 17, 18, 19, 20, 21, 22, 23, 24, 25, 26, 27, 28, 29, 30, 31, 32, 33, 34, 35, 36, 37, 38, 39, 40, 41, 42, 43, 44, 45, 46, 47, 48, 49, 50, 51, 52, 53, 54, 55, 56, 57, 58, 59, 60, 61, 62, 63, 64, 65, 66, 67, 68, 69, 70, 71, 72, 73, 74, 75, 76, 77, 78, 79, 80, 81, 82, 83, 84, 85, 86, 87, 88, 89, 90, 91, 92, 93, 94, 95, 96, 97, 98, 99, 100, 101, 102, 103, 104, 105, 106, 107] [some 0, some 1, some 2, some 3, some 4, some 5, some 6, some 7, some 8, some 9, some 10, some 11, some 12, some 13, some 14, some 15, some 16, some 17, some 18, some 19, some 20, some 21, some 22, some 23, some 24, some 25, some 26, some 27, some 28, some 29, some 30, some 31, some 32, some 33, some 34, some 35, some 36, some 37, some 38, some 39, some 40, some 41, some 42, some 43, some 44, some 45, some 46, some 47, some 48, some 49, some 50, some 51, some 52, some 53, some 54, some 55, some 56, some 57, some 58, some 59, some 60, some 61, some 62, some 63, some 64, some 65, some 66, some 67, some 68, some 69, some 70, some 71, some 72, some 73, some 74, some 75, some 76, some 77, some 78, some 79, some 80, some 81, some 82, some 83, some 84, some 85, some 86, some 87, some 88, some 89, some 90, some 91, some 92, some 93, some 94, some 95, some 96, some 97, some 98, some 99, some 100, some 101, some 102, some 103, some 104, some 105, some 106, some 107, none, none])) = true := by decide +kernel
theorem zE_up {mm : zM} {rm : Nat × Nat} {va va2 : List zNV} {r : Option Int} {f f' : Nat → Int} {g g' : Nat → Int → Int} (e1 : va.map (zv_rn [0, 1, 2, 3, 4, 5, 6, 7, 8, 9, 10, 11, 12, 13, 14, 15, 16, 17, 18, 19, 20, 21, 22, 23, 24, 25, 26, 27, 28, 29, 30, 31, 32, 33, 34, 35, 36, 37, 38, 39, 40, 41, 42, 43, 44, 45, 46, 47, 48, 49, 50, 51, 52, 53, 54, 55, 56, 57, 58, 59, 60, 61, 62, 63, 64, 65, 66, 67, 68, 69, 70, 71, 72, 73, 74, 75, 76, 77, 78, 79, 80, 81, 82, 83, 84, 85, 86, 87, 88, 89, 90, 91, 92, 93, 94, 95, 96, 97, 98, 99, 100, 101, 102, 103, 104, 105, 106, 107, 108, 109, 110, 111, 112, 113, 114, 115, 116, 117, 118, 119, 120, 121, 122, 123, 124, 125, 126]) = va2) (e97 : f' 97 = f 97) (e98 : f' 98 = f 98) (e108 : g' 108 = g 108) (e109 : g' 109 = g 109) (h : zv_Fn z_TB z_cl z_KX zyL mm rm va (zL_F f) (zL_G g) r (zL_F f') (zL_G g')) : zv_Fn z_TB z_cl z_KX zyE mm rm va2 (zE_F f) (zE_G g) r (zE_F f') (zE_G g') := by
  refine zv_emq (F := zE_F f) (F' := zE_F f') (G := zE_G g) (G' := zE_G g') (ρ := [0, 1, 2, 3, 4, 5, 6, 7, 8, 9, 10, 11, 12, 13, 14, 15, 16, 17, 18, 19, 20, 21, 22, 23, 24, 25, 26, 27, 28, 29, 30, 31, 32, 33, 34, 35, 36, 37, 38, 39, 40, 41, 42, 43, 44, 45, 46, 47, 48, 49, 50, 51, 52, 53, 54, 55, 56, 57, 58, 59, 60, 61, 62, 63, 64, 65, 66, 67, 68, 69, 70, 71, 72, 73, 74, 75, 76, 77, 78, 79, 80, 81, 82, 83, 84, 85, 86, 87, 88, 89, 90, 91, 92, 93, 94, 95, 96, 97, 98, 99, 100, 101, 102, 103, 104, 105, 106, 107, 108, 109, 110, 111, 112, 113, 114, 115, 116, 117, 118, 119, 120, 121, 122, 123, 124, 125, 126]) (φ := [0, 1, 2, 3, 4, 5, 6, 7, 8, 9, 10, 11, 12, 13, 14, 15, 16, 17, 18, 19, 20, 21, 22, 23, 24, 25, 26, 27, 28, 29, 30, 31, 32, 33, 34, 35, 36, 37, 38, 39, 40, 41, 42, 43, 44, 45, 46, 47, 48, 49, 50, 51, 52, 53, 54, 55, 56, 57, 58, 59, 60, 61, 62, 63, 64, 65, 66, 67, 68, 69, 70, 71, 72, 73, 74, 75, 76, 77, 78, 79, 80, 81, 82, 83, 84, 85, 86, 87, 88, 89, 90, 91, 92, 93, 94, 95, 96]) (ψ := [0, 1, 2, 3, 4, 5, 6, 7, 8, 9, 10, 11, 12, 13, 14, 15, 16, 17, 18, 19, 20, 21, 22, 23, 24, 25, 26, 27, 28, 29, 30, 31, 32, 33, 34, 35, 36, 37, 38, 39, 40, 41, 42, 43, 44, 45, 46, 47, 48, 49, 50, 51, 52, 53, 54, 55, 56, 57, 58, 59, 60, 61, 62, 63, 64, 65, 66, 67, 68, 69, 70, 71, 72, 73, 74, 75, 76, 77, 78, 79, 80, 81, 82, 83, 84, 85, 86, 87, 88, 89, 90, 91, 92, 93, 94, 95, 96, 97, 98, 99, 100, 101, 102, 103, 104, 105, 106, 107]) [some 0, some 1, some 2, some 3, some 4, some 5, some 6, some 7, some 8, some 9, some 10, some 11, some 12, some 13, some 14, some 15, some 16, some 17, some 18, some 19, some 20, some 21, some 22, some 23, some 24, some 25, some 26, some 27, some 28, some 29, some 30, some 31, some 32, some 33, some 34, some 35, some 36, some 37, some 38, some 39, some 40, some 41, some 42, some 43, some 44, some 45, some 46, some 47, some 48, some 49, some 50, some 51, some 52, some 53, some 54, some 55, some 56, some 57, some 58, some 59, some 60, some 61, some 62, some 63, some 64, some 65, some 66, some 67, some 68, some 69, some 70, some 71, some 72, some 73, some 74, some 75, some 76, some 77, some 78, some 79, some 80, some 81, some 82, some 83, some 84, some 85, some 86, some 87, some 88, some 89, some 90, some 91, some 92, some 93, some 94, some 95, some 96, none, none] [some 0, some 1, some 2, some 3, some 4, some 5, some 6, some 7, some 8, some 9, some 10, some 11, some 12, some 13, some 14, some 15, some 16, some 17, some 18, some 19, some 20, some 21, some 22, some 23, some 24, some 25, some 26, some 27, some 28, some 29, some 30, some 31, some 32, some 33, some 34, some 35, some 36, some 37, some 38, some 39, some 40, some 41, some 42, some 43, some 44, some 45, some 46, some 47, some 48, some 49, some 50, some 51, some 52, some 53, some 54, some 55, some 56, some 57, some 58, some 59, some 60, some 61, some 62, some 63, some 64, some 65, some 66, some 67, some 68, some 69, some 70, some 71, some 72, some 73, some 74, some 75, some 76, some 77, some 78, some 79, some 80, some 81, some 82, some 83, some 84, some 85, some 86, some 87, some 88, some 89, some 90, some 91, some 92, some 93, some 94, some 95, some 96, some 97, some 98, some 99, some 100, some 101, some 102, some 103, some 104, some 105, some 106, some 107, none, none] zywL zywE zyeE zE_k h ⟨⟨_, rfl, fun _ => rfl⟩, ⟨_, rfl, fun _ => rfl⟩, ⟨_, rfl, fun _ => rfl⟩, ⟨_, rfl, fun _ => rfl⟩, ⟨_, rfl, fun _ => rfl⟩, ⟨_, rfl, fun _ => rfl⟩, ⟨_, rfl, fun _ => rfl⟩, ⟨_, rfl, fun _ => rfl⟩, ⟨_, rfl, fun _ => rfl⟩, ⟨_, rfl, fun _ => rfl⟩, ⟨_, rfl, fun _ => rfl⟩, ⟨_, rfl, fun _ => rfl⟩, ⟨_, rfl, fun (h : zv_is (.inr 1000)) => (Nat.lt_irrefl 1000 h).elim⟩, ⟨_, rfl, fun _ => rfl⟩, ⟨_, rfl, fun _ => rfl⟩, ⟨_, rfl, fun _ => rfl⟩, ⟨_, rfl, fun _ => rfl⟩, ⟨_, rfl, fun _ => rfl⟩, ⟨_, rfl, fun _ => rfl⟩, ⟨_, rfl, fun _ => rfl⟩, ⟨_, rfl, fun _ => rfl⟩, ⟨_, rfl, fun _ => rfl⟩, ⟨_, rfl, fun _ => rfl⟩, ⟨_, rfl, fun (h : zv_is (.inr 1000)) => (Nat.lt_irrefl 1000 h).elim⟩, ⟨_, rfl, fun (h : zv_is (.inr 1000)) => (Nat.lt_irrefl 1000 h).elim⟩, ⟨_, rfl, fun _ => rfl⟩, ⟨_, rfl, fun _ => rfl⟩, ⟨_, rfl, fun _ => rfl⟩, ⟨_, rfl, fun _ => rfl⟩, ⟨_, rfl, fun _ => rfl⟩, ⟨_, rfl, fun _ => rfl⟩, ⟨_, rfl, fun _ => rfl⟩, ⟨_, rfl, fun _ => rfl⟩, ⟨_, rfl, fun _ => rfl⟩, ⟨_, rfl, fun _ => rfl⟩, ⟨_, rfl, fun _ => rfl⟩, ⟨_, rfl, fun _ => rfl⟩, ⟨_, rfl, fun _ => rfl⟩, ⟨_, rfl, fun _ => rfl⟩, ⟨_, rfl, fun (h : zv_is (.inr 1000)) => (Nat.lt_irrefl 1000 h).elim⟩, ⟨_, rfl, fun (h : zv_is (.inr 1000)) => (Nat.lt_irrefl 1000 h).elim⟩, ⟨_, rfl, fun _ => rfl⟩, ⟨_, rfl, fun _ => rfl⟩, ⟨_, rfl, fun _ => rfl⟩, ⟨_, rfl, fun _ => rfl⟩, ⟨_, rfl, fun _ => rfl⟩, ⟨_, rfl, fun _ => rfl⟩, ⟨_, rfl, fun _ => rfl⟩, ⟨_, rfl, fun _ => rfl⟩, ⟨_, rfl, fun _ => rfl⟩, ⟨_, rfl, fun _ => rfl⟩, ⟨_, rfl, fun _ => rfl⟩, ⟨_, rfl, fun _ => rfl⟩, ⟨_, rfl, fun _ => rfl⟩, ⟨_, rfl, fun _ => rfl⟩, ⟨_, rfl, fun _ => rfl⟩, ⟨_, rfl, fun _ => rfl⟩, ⟨_, rfl, fun (h : zv_is (.inr 1000)) => (Nat.lt_irrefl 1000 h).elim⟩, ⟨_, rfl, fun (h : zv_is (.inr 1000)) => (Nat.lt_irrefl 1000 h).elim⟩, ⟨_, rfl, fun _ => rfl⟩, ⟨_, rfl, fun _ => rfl⟩, ⟨_, rfl, fun _ => rfl⟩, ⟨_, rfl, fun _ => rfl⟩, ⟨_, rfl, fun _ => rfl⟩, ⟨_, rfl, fun _ => rfl⟩, ⟨_, rfl, fun _ => rfl⟩, ⟨_, rfl, fun _ => rfl⟩, ⟨_, rfl, fun _ => rfl⟩, ⟨_, rfl, fun _ => rfl⟩, ⟨_, rfl, fun _ => rfl⟩, ⟨_, rfl, fun _ => rfl⟩, ⟨_, rfl, fun _ => rfl⟩, ⟨_, rfl, fun _ => rfl⟩, ⟨_, rfl, fun _ => rfl⟩, ⟨_, rfl, fun _ => rfl⟩, ⟨_, rfl, fun _ => rfl⟩, ⟨_, rfl, fun _ => rfl⟩, ⟨_, rfl, fun _ => rfl⟩, ⟨_, rfl, fun _ => rfl⟩, ⟨_, rfl, fun _ => rfl⟩, ⟨_, rfl, fun _ => rfl⟩, ⟨_, rfl, fun _ => rfl⟩, ⟨_, rfl, fun _ => rfl⟩, ⟨_, rfl, fun _ => rfl⟩, ⟨_, rfl, fun _ => rfl⟩, ⟨_, rfl, fun _ => rfl⟩, ⟨_, rfl, fun _ => rfl⟩, ⟨_, rfl, fun _ => rfl⟩, ⟨_, rfl, fun _ => rfl⟩, ⟨_, rfl, fun _ => rfl⟩, ⟨_, rfl, fun _ => rfl⟩, ⟨_, rfl, fun _ => rfl⟩, ⟨_, rfl, fun _ => rfl⟩, ⟨_, rfl, fun _ => rfl⟩, ⟨_, rfl, fun _ => rfl⟩, ⟨_, rfl, fun _ => rfl⟩, ⟨_, rfl, fun _ => rfl⟩, trivial⟩ ⟨rfl, rfl, rfl, rfl, rfl, rfl, rfl, rfl, rfl, rfl, rfl, rfl, rfl, rfl, rfl, rfl, rfl, rfl, rfl, rfl, rfl, rfl, rfl, rfl, rfl, rfl, rfl, rfl, rfl, rfl, rfl, rfl, rfl, rfl, rfl, rfl, rfl, rfl, rfl, rfl, rfl, rfl, rfl, rfl, rfl, rfl, rfl, rfl, rfl, rfl, rfl, rfl, rfl, rfl, rfl, rfl, rfl, rfl, rfl, rfl, rfl, rfl, rfl, rfl, rfl, rfl, rfl, rfl, rfl, rfl, rfl, rfl, rfl, rfl, rfl, rfl, rfl, rfl, rfl, rfl, rfl, rfl, rfl, rfl, rfl, rfl, rfl, rfl, rfl, rfl, rfl, rfl, rfl, rfl, rfl, rfl, rfl, rfl, rfl, rfl, rfl, rfl, rfl, rfl, rfl, rfl, rfl, rfl, trivial⟩ rfl rfl rfl rfl e1 ?_ ?_
  · show zv_mkF _ (zL_F f') _ (zE_F f) = zE_Fr 14 21 1000 22 24 1000 1000 1000 1000 1000 1000 f'
    unfold zE_Fr
    rw [e97, e98]
    rfl
  · show zv_mkG (zL_G g') _ (zE_G g) = zE_G g'
    unfold zE_G
    rw [e108, e109]
    rfl
end
section
/-! From typed cells to named ones: the layout. -/
def zy_rd (H : Heap) (a : Nat) (i : Int) : Int := match H[a]? with
  | some ce => (match ce.slots[i.toNat]? with
    | some (.int x) => x.toInt
    | some (.long x) => (x.toBitVec.toNat : Int)
    | _ => 0)
  | none => 0
theorem zy_rd_at {H : Heap} {a n : Nat} {cA : ClassId} {f : Nat → Value} (h : H[a]? = some (arrV cA n f)) {j : Nat} (hj : j < n) : zy_rd H a (j : Int) = match f j with
    | .int x => x.toInt
    | .long x => (x.toBitVec.toNat : Int)
    | _ => 0 := by
  unfold zy_rd
  rw [h, Int.toNat_natCast]
  show (match (arrV cA n f).slots[j]? with
    | some (.int x) => x.toInt
    | some (.long x) => (x.toBitVec.toNat : Int)
    | _ => 0) = _
  rw [arrV_read _ _ hj]
  cases f j <;> rfl
section ZYREP2
variable {OB : Nat → Nat} {D : va_G} {DA : Nat → ClassId} {cl : List vw_C} {TY : List zTy} {T : zTp} {H : Heap} {sz N : Nat} {y : zNL} {NT : List Nat} {F0 : List zNV}
theorem zy_obj_ok {c ci : Nat} {fl : List zV} (h : zy_obj TY NT c ci = some fl) : ∃ t o, NT[c]? = some t ∧ TY[t]? = some (.inl o) ∧ o.1 = ci ∧ o.2 = fl := by
  unfold zy_obj at h
  split at h
  · rename_i t ht
    split at h
    · rename_i o ho
      obtain ⟨h1, h2⟩ := zi_if h
      exact ⟨t, o, ht, ho, z_beq h1, Option.some.inj h2⟩
    · cases h
  · cases h
theorem zy_arr_ok {c kd n : Nat} (h : zy_arr TY NT c kd n = true) : ∃ t q, NT[c]? = some t ∧ TY[t]? = some (.inr q) ∧ q.1 = kd ∧ q.2.1.1 = n ∧ q.2.1.2 = n ∧ (kd = 2 → ∃ s ∈ q.2.2, s.1.1 = 0 ∧ n ≤ s.1.2 + 1 ∧ s.2 = .inr (.inr 0)) ∧ (kd ≠ 2 → ∃ s ∈ q.2.2, s.1.1 = 0 ∧ n ≤ s.1.2 + 1 ∧ ∃ r, s.2 = .inl r) := by
  unfold zy_arr at h
  split at h
  · rename_i t ht
    split at h
    · rename_i q hq
      simp only [Bool.and_eq_true] at h
      obtain ⟨⟨h1, h2, h3⟩, h4⟩ := h
      refine ⟨t, q, ht, hq, z_beq h1, z_beq h2, z_beq h3, fun e => ?_, fun e => ?_⟩
      · subst e
        obtain ⟨s, s1, s2⟩ := List.any_eq_true.mp h4
        simp only [Bool.and_eq_true] at s2
        obtain ⟨⟨s2, s3⟩, s4⟩ := s2
        refine ⟨s, s1, z_beq s2, Nat.le_of_ble_eq_true s3, ?_⟩
        split at s4
        · rename_i e; exact e
        · cases s4
      · split at h4
        · exact absurd rfl e
        · unfold zy_cov at h4
          obtain ⟨s, s1, s2⟩ := List.any_eq_true.mp h4
          simp only [Bool.and_eq_true] at s2
          obtain ⟨⟨s2, s3⟩, s4⟩ := s2
          refine ⟨s, s1, z_beq s2, Nat.le_of_ble_eq_true s3, ?_⟩
          split at s4
          · rename_i r e; exact ⟨r, e⟩
          · cases s4
    · cases h
  · cases h
theorem zy_rep_ok (hk : zy_ok TY y NT F0 = true) (h900 : n_N y ≤ 900) (hh : ∀ a t, T a = some t → ∃ ty, TY[t]? = some ty ∧ z_cell OB D DA cl T H a ty) (hge : ∀ a t, T a = some t → sz ≤ a) (hinj : ∀ a b t, T a = some t → T b = some t → a = b) (hall : ∀ t ∈ NT, ∃ a, T a = some t) :
    ∃ A : Nat → Nat, (∀ a b, a < n_N y → b < n_N y → A a = A b → a = b) ∧ (∀ a, a < n_N y → sz ≤ A a) ∧ (∀ k, A (900 + k) = OB k) ∧ (∀ c t : Nat, NT[c]? = some t → T (A c) = some t) ∧
      (∀ G, (∀ q ∈ n_A y, zv_l G q.2.2.2 = some (zy_rd H (A q.1))) → zv_rep D DA cl y A F0 G H) ∧
      ∀ (c t : Nat) q s r, NT[c]? = some t → TY[t]? = some (.inr q) → s ∈ q.2.2 → s.2 = .inl r → ∀ i : Nat, i < q.2.1.1 → s.1.1 ≤ i → i ≤ s.1.2 → r.1 ≤ zy_rd H (A c) i ∧ zy_rd H (A c) i ≤ r.2 := by
  unfold zy_ok at hk
  simp only [Bool.and_eq_true] at hk
  obtain ⟨⟨k1, k2⟩, k3, k4, k5, k6⟩ := hk
  have hlen := z_beq k1
  have hA : ∀ c : Nat, ∃ a : Nat, ∀ t, NT[c]? = some t → T a = some t := fun c => by
    cases h : NT[c]? with
    | none => exact ⟨0, fun t ht => by cases ht⟩
    | some t =>
      obtain ⟨a, ha⟩ := hall t (List.mem_of_getElem? h)
      exact ⟨a, fun t2 h2 => by cases h2; exact ha⟩
  obtain ⟨A0, hA0⟩ := Classical.axiomOfChoice hA
  have nt : ∀ c : Nat, c < n_N y → ∃ t, NT[c]? = some t := fun c hc => ⟨_, List.getElem?_eq_getElem (by omega)⟩
  have hN : ∀ c t : Nat, NT[c]? = some t → c < n_N y := fun c t h => by
    have := (List.getElem?_eq_some_iff.mp h).1
    omega
  have hAt : ∀ c t : Nat, NT[c]? = some t → T (if c < 900 then A0 c else OB (c - 900)) = some t := fun c t h => by
    have := hN c t h
    rw [if_pos (by omega)]
    exact hA0 c t h
  refine ⟨fun c => if c < 900 then A0 c else OB (c - 900), fun a b ha hb e => ?_, fun a ha => ?_, fun k => ?_, hAt, fun G hG => ?_, fun c t q s r hc hq hs hr i hi1 hi2 hi3 => ?_⟩
  · obtain ⟨t, ht⟩ := nt a ha
    obtain ⟨u, hu⟩ := nt b hb
    have e : (if a < 900 then A0 a else OB (a - 900)) = (if b < 900 then A0 b else OB (b - 900)) := e
    have h1 := hAt a t ht
    have h2 := hAt b u hu
    rw [e, h2] at h1
    cases h1
    have h3 := List.all_eq_true.mp (List.all_eq_true.mp k2 a (List.mem_range.mpr ha)) b (List.mem_range.mpr hb)
    rw [Bool.or_eq_true] at h3
    rcases h3 with h3 | h3
    · exact z_beq h3
    · rw [List.getD_eq_getElem?_getD, List.getD_eq_getElem?_getD, ht, hu] at h3
      have : Nat.beq t t = true := Nat.beq_refl t
      simp [this] at h3
  · obtain ⟨t, ht⟩ := nt a ha
    exact hge _ t (hAt a t ht)
  · show (if 900 + k < 900 then A0 (900 + k) else OB (900 + k - 900)) = OB k
    rw [if_neg (by omega), Nat.add_sub_cancel_left]
  · have obj : ∀ {c ci : Nat} {fl : List zV}, zy_obj TY NT c ci = some fl → ∃ r V, cl[ci]? = some r ∧ fl.length = r.2.2 ∧ t_OB (if c < 900 then A0 c else OB (c - 900)) (D.1 ci) r.2.2 (D.2 ci) H V ∧ ∀ k c, fl[k]? = some c → z_v OB T c (V k) := fun h => by
      obtain ⟨t, o, h1, h2, h3, h4⟩ := zy_obj_ok h
      obtain ⟨ty, e1, e2⟩ := hh _ t (hAt _ t h1)
      rw [h2] at e1
      cases e1
      obtain ⟨r, r1, r2, V, r3, r4⟩ := e2
      rw [h3] at r1 r3
      rw [h4] at r2 r4
      exact ⟨r, V, r1, r2, r3, r4⟩
    refine ⟨fun q hq => ?_, fun q hq => ?_, fun q hq => ?_, fun q hq => ?_⟩
    · have h1 := List.all_eq_true.mp k3 q hq
      obtain ⟨fl, h2⟩ := Option.isSome_iff_exists.mp h1
      obtain ⟨r, V, r1, r2, r3, r4⟩ := obj h2
      exact ⟨r, V, r1, r3⟩
    · have h1 := List.all_eq_true.mp k4 q hq
      split at h1
      · rename_i fl v h2 h3
        split at h1
        · rename_i c hc
          obtain ⟨r, V, r1, r2, r3, r4⟩ := obj h2
          have hkl : q.2.2.1 < r.2.2 := by rw [← r2]; exact (List.getElem?_eq_some_iff.mp hc).1
          have hv := r4 _ _ hc
          obtain ⟨cell, s1, s2, s3, s4⟩ := r3
          refine ⟨r, V q.2.2.1, v, r1, hkl, ⟨cell, s1, s3, s4 _ hkl⟩, h3, fun his => ?_⟩
          unfold zy_val at h1
          split at h1
          · rename_i rr x
            rw [Bool.and_eq_true] at h1
            obtain ⟨x1, e, e2⟩ := hv
            have a1 := z_ile_ok h1.1
            have a2 := z_ile_ok h1.2
            exact ⟨x1, e, by have := e2.1; have := e2.2; omega⟩
          · rename_i rr k
            have h5 : k < 1000 := his
            have := Nat.le_of_ble_eq_true h1
            omega
          · rename_i u k
            have h5 : k < 1000 := his
            rw [Bool.or_eq_true] at h1
            rcases h1 with h1 | h1
            · have := Nat.le_of_ble_eq_true h1
              omega
            · split at h1
              · rename_i t ht
                obtain ⟨a, e, e2⟩ := hv
                have h6 := hinj _ _ _ e2 (by rw [← z_beq h1]; exact hAt k t ht)
                rw [e, h6]
                exact zv_w_mk (c := k) (A := fun c => if c < 900 then A0 c else OB (c - 900)) (by omega)
              · cases h1
          · cases h1
        · cases h1
      · cases h1
    · have h1 := List.all_eq_true.mp k5 q hq
      split at h1
      · rename_i fl t h2 h3
        split at h1
        · rename_i u hc
          obtain ⟨r, V, r1, r2, r3, r4⟩ := obj h2
          have hkl : q.2.2.1 < r.2.2 := by rw [← r2]; exact (List.getElem?_eq_some_iff.mp hc).1
          obtain ⟨a, e, e2⟩ := r4 _ _ hc
          obtain ⟨cell, s1, s2, s3, s4⟩ := r3
          refine ⟨r, r1, hkl, ⟨cell, s1, s3, ?_⟩⟩
          have h6 := hinj _ _ _ e2 (by rw [z_beq h1]; exact hAt q.2.2.2 t h3)
          rw [s4 _ hkl, e, h6]
        · cases h1
      · cases h1
    · obtain ⟨t, qq, h1, h2, h3, h4, h5, h6, h7⟩ := zy_arr_ok (List.all_eq_true.mp k6 q hq)
      obtain ⟨ty, e1, e2⟩ := hh _ t (hAt _ t h1)
      rw [h2] at e1
      cases e1
      obtain ⟨n, f, f1, f2, f3, -, f4⟩ := e2
      have en : n = q.2.2.1 := by omega
      subst en
      rw [h3] at f1
      refine ⟨f, _, f1, hG q hq, fun j hj => ?_⟩
      have hrd := zy_rd_at f1 hj
      by_cases e2 : q.2.1 = 2
      · obtain ⟨s, s1, s2, s3, s4⟩ := h6 e2
        have hv := f4 s s1 j hj (by omega) (by omega)
        rw [s4] at hv
        obtain ⟨x, hx⟩ := hv
        rw [e2]
        show f j = .long (Int64.ofNat (zy_rd H _ (j : Int)).toNat)
        rw [hrd, hx]
        show Value.long x = .long (Int64.ofNat (x.toBitVec.toNat : Int).toNat)
        rw [Int.toNat_natCast, zi_l64]
      · obtain ⟨s, s1, s2, s3, rr, s4⟩ := h7 e2
        have hv := f4 s s1 j hj (by omega) (by omega)
        rw [s4] at hv
        obtain ⟨x, hx, -⟩ := hv
        have : zv_e q.2.1 (f j) (zy_rd H (if q.1 < 900 then A0 q.1 else OB (q.1 - 900)) (j : Int)) = ∃ y : Int32, f j = .int y ∧ y.toInt = zy_rd H (if q.1 < 900 then A0 q.1 else OB (q.1 - 900)) (j : Int) := by
          unfold zv_e
          split
          · rename_i h; exact absurd h e2
          · rfl
        rw [this]
        exact ⟨x, hx, by rw [hrd, hx]⟩
  · obtain ⟨ty, e1, e2⟩ := hh _ t (hAt c t hc)
    rw [hq] at e1
    cases e1
    obtain ⟨n, f, f1, f2, f3, -, f4⟩ := e2
    have hv := f4 s hs i (by omega) hi2 hi3
    rw [hr] at hv
    obtain ⟨x, hx, hx2⟩ := hv
    have hrd := zy_rd_at f1 (show i < n by omega)
    rw [hx] at hrd
    have hrd : zy_rd H (if c < 900 then A0 c else OB (c - 900)) (i : Int) = x.toInt := hrd
    show r.1 ≤ zy_rd H (if c < 900 then A0 c else OB (c - 900)) (i : Int) ∧ zy_rd H (if c < 900 then A0 c else OB (c - 900)) (i : Int) ≤ r.2
    rw [hrd]
    exact hx2
end ZYREP2
end
section
/-! The state at the law's head. -/
def y0_NT : List Nat := [86, 128, 5, 0, 1, 2, 3, 4, 20, 19, 18, 25, 24, 44, 43, 35, 36, 37, 38, 39, 40, 34, 48, 47, 46, 52, 50, 32, 28, 30, 31, 26, 33, 27, 49, 51, 60, 57, 45, 58, 59, 17, 12, 13, 14, 15, 16, 76, 71, 72, 74, 75, 73, 84, 77, 78, 79, 80, 81, 29, 82, 83, 70, 67, 69, 68, 61, 62, 63, 64, 66, 65, 56, 54, 53, 55, 85, 11, 6, 7, 8, 9, 10, 23, 21, 22, 87, 90, 93, 94, 95, 92, 91, 96, 97, 98, 99, 100, 101, 103, 102, 104, 107, 108, 105, 106, 109, 110, 111, 114, 113, 112, 115, 116, 117, 118, 119, 120, 88, 121, 123, 122, 124, 125, 126, 127, 89, 41, 42]
def y0_FV : List Int := [0, 0, 0, 4, 3, 0, 0, 0, 0, 0, 0, 0, 0, 0, 0, 0, 0, 0, 0, 0, 0, 0, 0, 0, 0, 0, 0, 0, 0, 0, 0, 0, 0, 0, 0, 0, 0, 0, 0, 0, 0, 0, 0, 0, 0, 0, 4, 3, 1, 1, 0, 0, (-1), 0, (-1), 0, (-1), 0, 0, 0, 0, 0, 0, 0, (-1), 0, 0, 0, 0, 4, 3, 1, 0, 0, 0, 0, 0, 0, 0, 0, 0, 0, 0, 0, 0, 0, 0, 0, 0, 0, 0, 0, 0, 0, 0, 0, 0, 0, 0]
def y0_f0 (j : Nat) : Int := y0_FV.getD j 0
def y0_P : List (Nat × Nat × Nat) := [(5, 86, 0), (11, 86, 1), (17, 86, 2), (20, 86, 3), (23, 86, 4), (25, 86, 6), (34, 86, 7), (43, 86, 8), (44, 86, 9), (46, 86, 10), (48, 86, 11), (52, 86, 12), (56, 86, 13), (60, 86, 14), (70, 86, 15), (76, 86, 16), (84, 86, 17), (85, 86, 18), (87, 128, 0), (88, 128, 1), (89, 128, 2), (90, 128, 3), (91, 128, 14), (92, 128, 15), (93, 128, 16), (94, 128, 17), (95, 128, 18), (96, 128, 19), (97, 128, 20), (98, 128, 21), (99, 128, 22), (100, 128, 23), (101, 128, 24), (102, 128, 25), (103, 128, 26), (104, 128, 28), (105, 128, 34), (106, 128, 35), (107, 128, 36), (108, 128, 37), (109, 128, 38), (110, 128, 39), (111, 128, 40), (112, 128, 42), (113, 128, 43), (114, 128, 44), (115, 128, 45), (116, 128, 46), (117, 128, 47), (118, 128, 49), (119, 128, 50), (120, 128, 51), (121, 128, 52), (122, 128, 53), (123, 128, 54), (124, 128, 59), (125, 128, 60), (126, 128, 61), (127, 128, 62), (0, 5, 1), (1, 5, 2), (2, 5, 3), (3, 5, 4), (4, 5, 5), (6, 11, 1), (7, 11, 2), (8, 11, 3), (9, 11, 4), (10, 11, 5), (12, 17, 1), (13, 17, 2), (14, 17, 3), (15, 17, 4), (16, 17, 5), (18, 20, 0), (19, 20, 2), (21, 23, 0), (22, 23, 2), (24, 25, 0), (26, 34, 0), (27, 34, 1), (28, 34, 3), (29, 34, 4), (30, 34, 5), (31, 34, 6), (32, 34, 12), (33, 34, 13), (35, 43, 0), (36, 43, 1), (37, 43, 3), (38, 43, 4), (39, 43, 5), (40, 43, 6), (41, 43, 12), (42, 43, 13), (45, 46, 2), (47, 48, 2), (49, 52, 5), (50, 52, 8), (51, 52, 9), (53, 56, 5), (54, 56, 8), (55, 56, 9), (57, 60, 0), (58, 60, 1), (59, 60, 2), (61, 70, 4), (62, 70, 5), (63, 70, 6), (64, 70, 7), (65, 70, 8), (66, 70, 11), (67, 70, 12), (68, 70, 13), (69, 70, 14), (71, 76, 0), (72, 76, 1), (73, 76, 2), (74, 76, 4), (75, 76, 5), (77, 84, 0), (78, 84, 1), (79, 84, 2), (80, 84, 3), (81, 84, 4), (82, 84, 5), (83, 84, 6)]
theorem y0_ok : zy_ok z_TYs zyE y0_NT (zE_F y0_f0) = true := by decide +kernel
def y0_AN : List Nat := [3, 4, 5, 6, 7, 9, 10, 12, 15, 16, 17, 18, 19, 20, 23, 26, 27, 28, 29, 30, 31, 32, 33, 34, 35, 37, 38, 39, 40, 42, 43, 44, 45, 46, 48, 49, 50, 51, 52, 54, 55, 56, 57, 58, 59, 60, 61, 63, 64, 65, 66, 67, 68, 69, 70, 71, 73, 74, 75, 76, 78, 79, 80, 81, 82, 84, 85, 86, 87, 88, 89, 90, 91, 92, 93, 94, 95, 96, 97, 98, 99, 100, 101, 102, 103, 104, 105, 106, 107, 108, 109, 110, 111, 112, 113, 114, 115, 116, 117, 118, 119, 120, 121, 122, 123, 124, 125, 126, 127, 128]
theorem y0_AN_ok : (n_A zyE).all (fun q => Nat.blt q.2.2.2 110 && Nat.beq (y0_AN.getD q.2.2.2 0) q.1) = true := by decide +kernel
/-- arrays of zeros: place, name, length -/
def y0_Z : List (Nat × Nat × Nat) := [(0, 3, 24), (1, 4, 24), (2, 5, 24), (3, 6, 24), (4, 7, 24), (5, 9, 6), (6, 10, 12), (7, 12, 220), (8, 15, 200), (9, 16, 200), (10, 17, 14), (11, 18, 14), (12, 19, 14), (13, 20, 14), (14, 23, 8), (15, 26, 24), (16, 27, 13), (17, 28, 14), (18, 29, 14), (19, 30, 14), (20, 31, 200), (21, 32, 40), (22, 33, 200), (23, 34, 24), (24, 35, 24), (25, 37, 72), (26, 38, 8), (27, 39, 24), (28, 40, 8), (29, 42, 24), (30, 43, 24), (31, 44, 24), (32, 45, 24), (33, 46, 24), (34, 48, 288), (36, 50, 24), (37, 51, 24), (38, 52, 12), (39, 54, 8), (40, 55, 24), (41, 56, 24), (42, 57, 24), (43, 58, 24), (44, 59, 14), (45, 60, 1000), (46, 61, 1000), (47, 63, 288), (48, 64, 288), (49, 65, 288), (50, 66, 24), (51, 67, 264), (52, 68, 264), (53, 69, 264), (54, 70, 288), (55, 71, 264), (56, 73, 24), (57, 74, 24), (58, 75, 24), (59, 76, 288), (60, 78, 24), (61, 79, 24), (62, 80, 24), (63, 81, 24), (64, 82, 24), (65, 84, 12), (66, 85, 6), (68, 87, 220), (69, 88, 14), (70, 89, 14), (71, 90, 14), (72, 91, 220), (73, 92, 220), (74, 93, 14), (75, 94, 220), (76, 95, 14), (77, 96, 14), (78, 97, 14), (79, 98, 14), (80, 99, 13), (81, 100, 220), (82, 101, 24), (83, 102, 12), (84, 103, 12), (85, 104, 12), (86, 105, 12), (87, 106, 8), (88, 107, 8), (89, 108, 8), (90, 109, 24), (91, 110, 288), (92, 111, 6912), (93, 112, 12), (94, 113, 8), (95, 114, 28), (96, 115, 24), (97, 116, 24), (98, 117, 25000), (99, 118, 422), (100, 119, 288), (101, 120, 288), (102, 121, 288), (103, 122, 24), (104, 123, 12), (105, 124, 12), (106, 125, 288), (107, 126, 422), (108, 127, 13), (109, 128, 40)]
def y0_z1 (c n : Nat) : Bool := match y0_NT[c]? with
  | some t => (match z_TYs[t]? with
    | some (.inr q) => Nat.ble n q.2.1.1 && q.2.2.any (fun s => Nat.beq s.1.1 0 && Nat.ble n (s.1.2 + 1) && (match s.2 with
      | .inl r => z_ile 0 r.1 && z_ile r.2 0
      | _ => false))
    | _ => false)
  | none => false
theorem y0_Z_ok : y0_Z.all (fun q => Nat.beq (y0_AN.getD q.1 0) q.2.1 && y0_z1 q.2.1 q.2.2) = true := by decide +kernel
theorem zE_G_l {g : Nat → Int → Int} {j : Nat} (h : j < 110) : zv_l (zE_G g) j = some (g j) := by
  have e : zE_G g = (List.range 110).map g := rfl
  rw [e, zv_l_get, List.getElem?_map, List.getElem?_range h]
  rfl
def y0_S : List Nat := (y0_P.map (fun q : Nat × Nat × Nat => q.1)).reverse ++ [86, 128]
theorem y0_go : zy_go z_TYs y0_P [86, 128] = some y0_S := by decide +kernel
theorem y0_all : (List.range 129).all (fun t => y0_S.any (fun u => Nat.beq u t)) = true := by decide +kernel
theorem y0_NT_lt : y0_NT.all (fun t => Nat.blt t 129) = true := by decide +kernel
def y0_n1 (i : Nat) : Bool := match z_TYs[(87 : Nat)]? with
  | some (.inr q) => Nat.beq q.2.1.1 422 && q.2.2.any (fun s => Nat.ble s.1.1 i && Nat.ble i s.1.2 && (match s.2 with
    | .inl r => z_ile 0 r.1 && z_ile r.2 0
    | _ => false))
  | _ => false
theorem y0_now : (List.range 422).all (fun i => (Nat.beq i 131 || (Nat.beq i 132 || Nat.beq i 133)) || y0_n1 i) = true := by decide +kernel
theorem y0_z1_ok {c n : Nat} (h : y0_z1 c n = true) : ∃ t q s r, y0_NT[c]? = some t ∧ z_TYs[t]? = some (.inr q) ∧ n ≤ q.2.1.1 ∧ s ∈ q.2.2 ∧ s.1.1 = 0 ∧ n ≤ s.1.2 + 1 ∧ s.2 = .inl r ∧ 0 ≤ r.1 ∧ r.2 ≤ 0 := by
  unfold y0_z1 at h
  split at h
  · rename_i t ht
    split at h
    · rename_i q hq
      rw [Bool.and_eq_true] at h
      obtain ⟨h1, h2⟩ := h
      obtain ⟨s, s1, s2⟩ := List.any_eq_true.mp h2
      simp only [Bool.and_eq_true] at s2
      obtain ⟨⟨s2, s3⟩, s4⟩ := s2
      split at s4
      · rename_i r hr
        rw [Bool.and_eq_true] at s4
        exact ⟨t, q, s, r, ht, hq, Nat.le_of_ble_eq_true h1, s1, z_beq s2, Nat.le_of_ble_eq_true s3, hr, z_ile_ok s4.1, z_ile_ok s4.2⟩
      · cases s4
    · cases h
  · cases h
/-- the arrays at the head -/
def y0_g (g : Nat → Int → Int) : Prop := (∀ q ∈ y0_Z, ∀ i : Int, 0 ≤ i → i < (q.2.2 : Nat) → g q.1 i = 0) ∧ g 67 131 = 4 ∧ g 67 132 = 3 ∧ g 67 133 = 1 ∧ ∀ i : Int, 0 ≤ i → i < 422 → i ≠ 131 → i ≠ 132 → i ≠ 133 → g 67 i = 0
theorem y0_rep {OB : Nat → Nat} {D : va_G} {DA : Nat → ClassId} {sz b : Nat} {H0 H : Heap} {T : zTp} {locs : List Loc} {ls : Array Slot} {x m : Nat} (hH : zy_H OB D DA z_cl z_TYs sz H0 4 b 86 128 z_nw T H locs ls x m) (hsz : H.size ≤ sz + 129) :
    ∃ (A : Nat → Nat) (g : Nat → Int → Int), (∀ a b, a < 129 → b < 129 → A a = A b → a = b) ∧ (∀ a, a < 129 → sz ≤ A a) ∧ (∀ k, A (900 + k) = OB k) ∧ A 0 = x ∧ A 1 = m ∧ zv_rep D DA z_cl zyE A (zE_F y0_f0) (zE_G g) H ∧ y0_g g := by
  obtain ⟨⟨hht, hge, -⟩, ⟨hx, hm⟩, -, hnw⟩ := hH
  have hN : ∀ t, t < 129 → ∃ a, T a = some t := fun t ht => by
    have h1 := List.all_eq_true.mp y0_all t (List.mem_range.mpr ht)
    obtain ⟨u, hu, h2⟩ := List.any_eq_true.mp h1
    rw [← z_beq h2]
    refine zy_go_ok hht.1 y0_go (fun t ht => ?_) u hu
    rcases List.mem_cons.mp ht with rfl | ht
    · exact ⟨x, hx⟩
    · rw [List.mem_singleton.mp ht]; exact ⟨m, hm⟩
  have hinj := zy_inj (N := 129) hge (fun a t ha => by obtain ⟨ty, -, h2⟩ := hht.1 a t ha; exact z_cell_lt h2) hsz hN
  obtain ⟨A, h1, h2, h3, h4, h5, h6⟩ := zy_rep_ok y0_ok (by decide) hht.1 hge hinj fun t ht => hN t (z_blt (List.all_eq_true.mp y0_NT_lt t ht))
  have hrep := h5 (zE_G fun j => zy_rd H (A (y0_AN.getD j 0))) fun q hq => by
    have h7 := List.all_eq_true.mp y0_AN_ok q hq
    rw [Bool.and_eq_true] at h7
    rw [zE_G_l (z_blt h7.1), z_beq h7.2]
  have zero : ∀ c n, y0_z1 c n = true → ∀ i : Int, 0 ≤ i → i < (n : Nat) → zy_rd H (A c) i = 0 := fun c n hc i i0 i1 => by
    obtain ⟨t, q, s, r, a1, a2, a3, a4, a5, a6, a7, a8, a9⟩ := y0_z1_ok hc
    have h8 := h6 c t q s r a1 a2 a4 a7 i.toNat (by omega) (by omega) (by omega)
    rw [Int.toNat_of_nonneg i0] at h8
    omega
  have nw : ∀ (e : Nat) (v : Int), ((0, 12, 0, some e), Sum.inl (v, v)) ∈ z_nw → zy_rd H (A 86) (e : Int) = v := fun e v he => by
    obtain ⟨y, r, n1, n2, n3⟩ := hnw _ he
    have n2 : (Sum.inl (v, v) : zV) = .inl r := n2
    cases n2
    obtain ⟨a, r0, c1, -, -, bb, c2, c3⟩ := n1
    cases c1
    obtain ⟨r1, -, -, c4⟩ := hrep.2.2.1 (1, 12, 0, 86) (by decide +kernel)
    have e1 : A 1 = m := hinj _ _ _ (h4 1 128 rfl) hm
    have c4 : z_sl H (A 1) (D.2 12 0) (.ref (A 86)) := c4
    rw [e1] at c4
    have c5 := z_sl_fun c2 c4
    cases c5
    obtain ⟨ce, d1, -, d2⟩ := c3
    unfold zy_rd
    rw [d1, Int.toNat_natCast]
    show (match ce.slots[e]? with
      | some (.int x) => x.toInt
      | some (.long x) => (x.toBitVec.toNat : Int)
      | _ => 0) = v
    rw [d2]
    have := n3.1
    have := n3.2
    show y.toInt = v
    omega
  refine ⟨A, fun j => zy_rd H (A (y0_AN.getD j 0)), h1, h2, h3, hinj _ _ _ (h4 0 86 rfl) hx, hinj _ _ _ (h4 1 128 rfl) hm, hrep, fun q hq i i0 i1 => ?_, nw 131 4 List.mem_cons_self, nw 132 3 (List.mem_cons_of_mem _ List.mem_cons_self), nw 133 1 (List.mem_cons_of_mem _ (List.mem_cons_of_mem _ List.mem_cons_self)), fun i i0 i1 n1 n2 n3 => ?_⟩
  · have h7 := List.all_eq_true.mp y0_Z_ok q hq
    rw [Bool.and_eq_true] at h7
    show zy_rd H (A (y0_AN.getD q.1 0)) i = 0
    rw [z_beq h7.1]
    exact zero _ _ h7.2 i i0 i1
  · show zy_rd H (A 86) i = 0
    have h7 := List.all_eq_true.mp y0_now i.toNat (List.mem_range.mpr (by omega))
    rw [Bool.or_eq_true] at h7
    rcases h7 with h7 | h7
    · rw [Bool.or_eq_true, Bool.or_eq_true] at h7
      rcases h7 with h7 | h7 | h7
      · have := z_beq h7; omega
      · have := z_beq h7; omega
      · have := z_beq h7; omega
    · unfold y0_n1 at h7
      split at h7
      · rename_i q hq
        rw [Bool.and_eq_true] at h7
        obtain ⟨s, s1, s2⟩ := List.any_eq_true.mp h7.2
        simp only [Bool.and_eq_true] at s2
        obtain ⟨⟨s2, s3⟩, s4⟩ := s2
        split at s4
        · rename_i r hr
          rw [Bool.and_eq_true] at s4
          have h8 := h6 86 87 q s r rfl hq s1 hr i.toNat (by have := z_beq h7.1; omega) (Nat.le_of_ble_eq_true s2) (Nat.le_of_ble_eq_true s3)
          rw [Int.toNat_of_nonneg i0] at h8
          have := z_ile_ok s4.1
          have := z_ile_ok s4.2
          omega
        · cases s4
      · cases h7
end
