/-! A constructor's contract. -/
/-- places that are known at the end -/
def zc_nw (cl : List vw_C) (ci : Nat) (st : zS) (nw : List (zLoc × zV)) : Bool := nw.all fun q => (Nat.beq q.1.1 0 && Nat.beq q.1.2.1 ci) && ((match cl[ci]? with
  | some r => Nat.blt q.1.2.2.1 r.2.2
  | none => false) && (match q.1.2.2.2, z_ffind st 0 ci q.1.2.2.1, q.2 with
  | some e, some w, .inl r => (z_E st).any (fun t => Nat.beq t.1 w && (match z_get (z_V st) t.2.1, z_get (z_V st) t.2.2 with
    | some (.inl i), some (.inl v) => (z_ile (e : Nat) i.1 && z_ile i.2 (e : Nat)) && (z_ile r.1 v.1 && z_ile v.2 r.2)
    | _, _ => false))
  | _, _, _ => false))
theorem zc_nw_ok {OB : Nat → Nat} {D : va_G} {DA : Nat → ClassId} {cl : List vw_C} {TY : List zTy} {PHI : List (List Nat)} {sz : Nat} {raw : Option Nat} {pu : Bool} {T0 T : zTp} {H0 H : Heap} {env0 env : List Value} {nL : Nat} {st : zS} {locs : List Loc} {ls : Array Slot} {stk : List Value} {ci a : Nat} {nw : List (zLoc × zV)} (h : zc_nw cl ci st nw = true) (hs : z_sat OB D DA cl TY PHI sz raw pu T0 H0 env0 nL st T H locs env ls stk) (h0 : env[0]? = some (.ref a)) :
    ∀ q ∈ nw, ∃ (x : Int32) (r : zR), (q.1.1 = 0 ∧ z_lv D cl H (some (.ref a)) q.1 (.int x)) ∧ q.2 = .inl r ∧ z_in r x := by
  intro q hq
  have h1 := List.all_eq_true.mp h q hq
  rw [Bool.and_eq_true, Bool.and_eq_true, Bool.and_eq_true] at h1
  obtain ⟨⟨c1, c2⟩, c3, c4⟩ := h1
  split at c3
  · rename_i r0 hr0
    split at c4
    · rename_i e w r he hw hr
      obtain ⟨t, ht, ht2⟩ := List.any_eq_true.mp c4
      rw [Bool.and_eq_true] at ht2
      obtain ⟨d1, d2⟩ := ht2
      split at d2
      · rename_i i v hi hv
        simp only [Bool.and_eq_true] at d2
        obtain ⟨⟨i1, i2⟩, v1, v2⟩ := d2
        obtain ⟨a2, w2, e1, e2, e3⟩ := z_ffind_ok hw hs
        rw [h0] at e1
        cases e1
        obtain ⟨a3, x, w3, f1, f2, f3, f4, f5⟩ := hs.2.2.2.2.2.2.1 t ht
        rw [z_beq d1, e2] at f1
        cases f1
        obtain ⟨xi, g1, xi2, rfl, g2⟩ := z_get_ok hs.2.2.2.2.1 hi
        rw [f2] at g1
        cases g1
        obtain ⟨xv, k1, xv2, rfl, k2⟩ := z_get_ok hs.2.2.2.2.1 hv
        rw [f4] at k1
        cases k1
        have j1 := z_ile_ok i1
        have j2 := z_ile_ok i2
        have j3 := g2.1
        have j4 := g2.2
        have ex : x.toInt.toNat = e := by omega
        rw [ex] at f5
        refine ⟨xv2, r, ⟨z_beq c1, a, r0, rfl, by rw [z_beq c2]; exact hr0, z_blt c3, ?_⟩, hr, z_in_le (z_ile_ok v1) (z_ile_ok v2) k2⟩
        rw [he, z_beq c2]
        exact ⟨a3, e3, f5⟩
      · cases d2
    · cases c4
  · cases c3
def zc_chk (hk : zHk) (TY : List zTy) (PHI : List (List Nat)) (cl : List vw_C) (FT : Nat → Nat → FieldType) (MT : List zM) (SG : List (Nat × zSig)) (RO PHS : List Nat) (mm : zM) (g : zSig) (ce : zCe) (f : List (Nat × Nat)) (ci tau : Nat) (nw : List (zLoc × zV)) : Bool := match z_ent TY cl FT mm.2.2.1 g with
  | some (st0, _) => z_run (z_hst hk (z_stp TY PHI cl FT MT SG RO PHS (z_room g) (g_pur g) mm.2.2.1 ce.1 mm.2.1 (fun st => zc_fin TY cl f ci tau (g_mk g) st && zc_nw cl ci st nw) (fun _ => false))) (z_cut [] (z_n st0) none) ce.2.2 0 st0
  | none => false
abbrev zc_g (k0 : zV) (ci tau : Nat) (nw : List (zLoc × zV)) (mk rm : Nat × Nat) : zSig := ([k0], some ci, [], [([(0, .inr (.inl tau))], none, [], nw)], false, mk, rm, 0)
section ZCONS2
variable {cl : List vw_C} {FT : Nat → Nat → FieldType} {TY : List zTy} {PHI : List (List Nat)} {KXf : (Nat → Nat) → Nat → State → Heap → Prop} {TBL : List Cond} {MT : List zM} {SG : List (Nat × zSig)} {RO PHS : List Nat} {hk : zHk} {mm : zM} {ce : zCe} {f : List (Nat × Nat)} {ci tau : Nat} {k0 : zV} {nw : List (zLoc × zV)} {mk rm : Nat × Nat}
theorem zc_OK (hpl : plainFor mm.1 = true) (hKS : z_KS (Cond.code mm.1 mm.2.1 mm.2.2.1 mm.2.2.2.1 :: TBL) TBL cl FT mm.1.cls MT ce.1) (hin : ∀ j, k_IN ce.1 = some j → mm.1.name = "<init>") (hXp : ∀ OB sz, z_KXp sz (KXf OB sz)) (hPH : ∀ a ∈ PHS, z_phok TY PHI a = true)
    (hok : ∀ g ∈ (k_CA ce.1).filterMap (fun a => SG[a.2]?), ∀ m2, MT[g.1]? = some m2 → z_OK TBL cl FT TY PHI KXf m2.1 m2.2.1 m2.2.2.1 m2.2.2.2.1 g.2) (hH : z_hok TBL cl TY PHI KXf mm (zc_g k0 ci tau nw mk rm) hk) (hret : mm.2.2.2.1 = none) (hf : zc_okf TY f = true) (h0 : zc_chk hk TY PHI cl FT MT SG RO PHS mm (zc_g k0 ci tau nw mk rm) ce f ci tau nw = true) : z_OK TBL cl FT TY PHI KXf mm.1 mm.2.1 mm.2.2.1 mm.2.2.2.1 (zc_g k0 ci tau nw mk rm) := by
  intro l OB D DA sz T
  refine va_MetF (cc := mm.2.1) (maxL := mm.2.2.1) (ret := mm.2.2.2.1) hpl rfl ?_
  intro p e s m args below meth c s₁ B hml hPre
  unfold zc_chk at h0
  split at h0
  · rename_i st0 ws hent
    obtain ⟨vals, e0, hrest⟩ := hPre
    subst e0
    obtain ⟨hl, h1, h2, h3, h4, h5, hsz, hK, hX⟩ := hrest
    obtain ⟨a, r0, V0, a1, a2, a3, a4, a5, a6⟩ := h2 ci rfl
    have hPre2 : z_Pre OB D DA cl FT TY sz (KXf OB sz) (zc_g k0 ci tau nw mk rm) (fun _ => none) vals.toArray s := by
      refine ⟨vals, rfl, hl, fun j c hj hor => ?_, fun ci2 hci2 => ?_, fun q hq => absurd hq List.not_mem_nil, ⟨fun a t ht => absurd ht (by simp), fun a t ci fl ha => absurd ha (by simp), fun a a' t t' ci fl fl' ha => absurd ha (by simp)⟩, fun a t ht => absurd ht (by simp), hsz, hK, hX⟩
      · rcases hor with h | h
        · cases h
        · cases j with
          | zero => exact absurd rfl h
          | succ j =>
            have hj : ([k0] : List zV)[j + 1]? = some c := hj
            simp at hj
      · have e : ci = ci2 := Option.some.inj hci2
        subst e
        exact ⟨a, r0, V0, a1, rfl, a3, a4, a5, a6⟩
    obtain ⟨hcat, hn, env, raw, hraw, hsat, hlen, hvals, hwl, hws⟩ := z_ent_ok (pu := false) (PHI := PHI) hPre2 hent
    have er : raw = some a := (hraw a).mpr ⟨rfl, a1⟩
    subst er
    have hts : ∀ w ∈ (Cond.code mm.1 mm.2.1 mm.2.2.1 mm.2.2.2.1 :: TBL), w.before vals.toArray s = true := atoms_spec (ws := Cond.code mm.1 mm.2.1 mm.2.2.1 mm.2.2.2.1 :: TBL) B.pre
    have hown : s.vm.findClass mm.1.cls = some m.cls := findClass_of_methodNamed B.named
    have hD : z_Dy s m vals.toArray (Cond.code mm.1 mm.2.1 mm.2.2.1 mm.2.2.2.1 :: TBL) mm.1.cls D cl DA (z_tys DA) := ⟨hts, hown, hK, z_tys_ok DA⟩
    have hname : meth.name = mm.1.name := (name_of_methodNamed B.named B.method).1
    rw [lg_entry_eq]
    have he0 : env[0]? = some (.ref a) := hvals 0 _ a1
    have hpos : 0 < z_n st0 := by rw [← hsat.1]; exact (List.getElem?_eq_some_iff.mp he0).1
    refine W.widen (Nat.zero_le _) (Nat.zero_le _) (z_runs (CU := []) (ng := z_n st0) (ends := fun env2 : List Value => env2[0]? = some (Value.ref a)) (fun env1 env2 he hgh => (hgh 0 hpos).trans he) (fun env1 pc st L he hL hall => ?_) (stp := z_hst hk (z_stp TY PHI cl FT MT SG RO PHS (z_room (zc_g k0 ci tau nw mk rm)) false mm.2.2.1 ce.1 mm.2.1 (fun st => zc_fin TY cl f ci tau mk st && zc_nw cl ci st nw) (fun _ => false))) (fuel := ce.2.2) rfl h0 he0 (by rw [hsat.1]; exact Nat.le_refl _) hsat)
    unfold z_hst at hL
    split at hL
    · rename_i L2 hL2
      cases hL
      exact hH p l e s m vals.toArray below meth c _ OB D DA sz (some a) (fun _ => none) s.heap env1 (fun pc st => ∀ T2 H2 locs2 env2 ls2 stk2, z_sat OB D DA cl TY PHI sz (some a) false (fun _ => none) s.heap env1 mm.2.2.1 st T2 H2 locs2 env2 ls2 stk2 → W p l e (z_room (zc_g k0 ci tau nw mk rm)) s m vals.toArray below meth c H2 locs2 (z_C st).1 (z_C st).2 (MQ below (z_Post OB D DA cl TY PHI sz (zc_g k0 ci tau nw mk rm) T) vals.toArray s mk.1 mk.2 (fun q => sz ≤ q)) (F0 m pc ls2 stk2)) (fun _ _ => Iff.rfl) B.exec B.bytes hml hD hsz hX pc st L hL2 hall
    refine z_stp_ok (good := fun pc st => ∀ T2 H2 locs2 env2 ls2 stk2, z_sat OB D DA cl TY PHI sz (some a) false (fun _ => none) s.heap env1 mm.2.2.1 st T2 H2 locs2 env2 ls2 stk2 → W p l e (z_room (zc_g k0 ci tau nw mk rm)) s m vals.toArray below meth c H2 locs2 (z_C st).1 (z_C st).2 (MQ below (z_Post OB D DA cl TY PHI sz (zc_g k0 ci tau nw mk rm) T) vals.toArray s mk.1 mk.2 (fun q => sz ≤ q)) (F0 m pc ls2 stk2)) (fun _ _ => Iff.rfl) B.exec B.bytes hml hD hsz (hXp OB sz) hX hKS (fun j hj => by rw [hname]; exact hin j hj) hPH hok (fun pc st hd hfin => ?_) (fun pc st hd hfin => by cases hfin) hL hall
    intro T2 H2 locs2 env2 ls2 stk2 hs
    have he2 : env2[0]? = some (.ref a) := by
      obtain ⟨w, hw⟩ := hs.2.1
      rw [hw]; exact z_app he
    rw [Bool.and_eq_true] at hfin
    obtain ⟨hfin, hnw⟩ := hfin
    have hht := zc_ht hf h4 a2 hs he2 hfin
    have hfin2 := hfin
    unfold zc_fin at hfin2
    simp only [Bool.and_eq_true] at hfin2
    obtain ⟨⟨⟨g1, g2, g3⟩, g4, -⟩, -⟩ := hfin2
    obtain ⟨q0, hq0, hq1⟩ := List.any_eq_true.mp g4
    rw [Bool.and_eq_true] at hq1
    obtain ⟨b2, x1, x2, x3, -⟩ := z_fx_in hs.2.2.2.2.2.2.2.2.1 q0 hq0
    rw [z_beq hq1.1, he2] at x1
    have ea : a = b2 := by cases x1; rfl
    subst ea
    have hm := hs.2.2.2.2.2.2.2.2.2
    have hk2 := hs.2.2.2.1
    rw [List.isEmpty_iff.mp g1] at hk2
    have hk2 : stk2 = [] := hk2
    subst hk2
    have hr : meth.sig.returnType = none := B.returns.trans hret
    have lt : ∀ q t, T q = some t → q < s.heap.size ∧ q ≠ a := by
      intro q t ht
      obtain ⟨ty, y1, y2⟩ := h4.1 q t ht
      exact ⟨z_cell_lt y2, fun e => by rw [e, a2] at ht; cases ht⟩
    refine W.widen (Nat.le_of_ble_eq_true g2) (Nat.le_of_ble_eq_true g3) (W.vret B.exec B.bytes hr (fun t ht _ => ?_) (fun q hq => hm.2.2.2.2.2.2 q hq) hd B.notSynchronized)
    refine ⟨vals, none, zc_T TY f a tau T T2, rfl, rfl, by rw [ht]; exact hht, fun q u hq => ?_, fun q u hq => zc_T_old (lt q u hq).2 hq, fun q hq1 hq2 hq3 => ?_, by rw [ht]; exact hm.2.2.2.2.1, fun q hq1 hq2 => by rw [ht]; exact hm.2.2.2.2.2.1 q hq1 hq2, ⟨fun h => (by cases h), fun q u c fl hq hty => ⟨u, fl, zc_T_old (lt q u hq).2 hq, hty, fun r k w y1 y2 y3 y4 => ?_⟩⟩, _, List.mem_singleton.mpr rfl, fun q hq => ?_, trivial, fun q hq => ?_, fun i q h hi => ?_⟩
    · rcases zc_T_inv hq with ⟨rfl, rfl⟩ | ⟨e, g⟩ | ⟨e, g, u2, o, g2, g3, rfl⟩
      · exact a3
      · exact h5 q u g
      · exact hm.2.1.1 q u2 g2
    · have hne : q ≠ a := fun e => hq3 rfl (by rw [e]; exact a1)
      have hun := hm.2.2.2.1 q hq1 rfl (fun e => by cases e; exact hne rfl)
      refine ⟨?_, by rw [ht]; exact hun.2⟩
      cases hT : zc_T TY f a tau T T2 q with
      | none => rfl
      | some u =>
        rcases zc_T_inv hT with ⟨e, -⟩ | ⟨-, g⟩ | ⟨-, -, u2, o, g2, -⟩
        · exact absurd e hne
        · rw [hq2] at g; cases g
        · rw [hun.1] at g2; cases g2
    · obtain ⟨l1, l2⟩ := lt q u hq
      have hun := hm.2.2.2.1 q l1 rfl (fun e => by cases e; exact l2 rfl)
      obtain ⟨cell, c1, c2⟩ := y4
      exact ⟨cell, by rw [ht, hun.2]; exact c1, c2⟩
    · have hq : q ∈ ([(0, .inr (.inl tau))] : List (Nat × zV)) := hq
      rw [List.mem_singleton.mp hq]
      exact ⟨_, a1, a, rfl, zc_T_at⟩
    · obtain ⟨x, r, n1, n2, n3⟩ := zc_nw_ok hnw hs he2 q hq
      rw [ht]
      refine ⟨.int x, ?_, by rw [n2]; exact ⟨x, rfl, n3⟩⟩
      obtain ⟨n0, n4⟩ := n1
      rw [n0, a1]
      exact n4
    · have hi : ([] : List (zLoc × zV))[i]? = some q := hi
      simp at hi
  · cases h0
end ZCONS2
