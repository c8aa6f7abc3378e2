/-! The law's own body: the script is read, the end answers 1. -/
def zl_hk (cc : ByteArray) : zHk := fun pc st => match decode cc pc with
  | .ok (.arraylength, 1) => (match z_S st with
    | d :: S => (match z_get (z_V st) d with
      | some (.inr (.inr 1)) => some [(pc + 1, z_stS st (1 :: S))]
      | _ => none)
    | _ => none)
  | .ok (.iaload, 1) => (match z_S st with
    | j :: d :: S => (match z_get (z_V st) d, z_get (z_V st) j with
      | some (.inr (.inr 1)), some (.inl r) => cond (z_ile 0 r.1 && z_ile r.2 5 && z_ile r.2 r.1 && (match z_lbs (z_R st) 3 1 j with
        | some k => z_ile 1 k
        | none => false)) (some [(pc + 1, z_stS st ((2 + r.1.toNat) :: S))]) none
      | _, _ => none)
    | _ => none)
  | _ => none
def zl_fin (mc ms : Nat) (st : zS) : Bool := (match z_S st with
  | [r] => (match z_get (z_V st) r with
    | some (.inl a) => z_ile 1 a.1 && z_ile a.2 1
    | _ => false)
  | _ => false) && Nat.ble (z_C st).1 mc && Nat.ble (z_C st).2 ms
def zl_env (b L : Nat) (xs : Nat → Int32) : List Value := [.ref b, .int (Int32.ofNat L), .int (xs 0), .int (xs 1), .int (xs 2), .int (xs 3), .int (xs 4), .int (xs 5)]
def zl_st : zS := ([(0, 0)], [], 8, [(0, .inr (.inr 1)), (1, .inl (0, 6)), (2, .inl z_full), (3, .inl z_full), (4, .inl z_full), (5, .inl z_full), (6, .inl z_full), (7, .inl z_full)], [], [], [], [], (0, 0), 0)
def zl_chk0 (TY : List zTy) (PHI : List (List Nat)) (cl : List vw_C) (FT : Nat → Nat → FieldType) (MT : List zM) (SG : List (Nat × zSig)) (PHS : List Nat) (R : Room) (nL mc ms : Nat) (cc : ByteArray) (ce : zCe) : Bool := z_run (z_hst (zl_hk cc) (z_stp TY PHI cl FT MT SG [] PHS R false nL ce.1 cc (fun _ => false) (zl_fin mc ms))) (z_cut ce.2.1 8 none) ce.2.2 0 zl_st
def zl_chkP (TY : List zTy) (PHI : List (List Nat)) (cl : List vw_C) (FT : Nat → Nat → FieldType) (MT : List zM) (SG : List (Nat × zSig)) (PHS : List Nat) (R : Room) (nL mc ms : Nat) (cc : ByteArray) (ce : zCe) (P : List zCu) : Bool := P.all (fun k => k.2.2.2.2.all (fun q => Nat.blt q.1 (z_n k.2.1)) && z_run (z_hst (zl_hk cc) (z_stp TY PHI cl FT MT SG [] PHS R false nL ce.1 cc (fun _ => false) (zl_fin mc ms))) (z_cut ce.2.1 8 (some k.2.2.2)) ce.2.2 k.1 k.2.1)
section ZLAW
variable {p : Program} {l : Launch} {e : Env} {R : Room} {s : State} {m : MethodId} {args : Array Value} {below : List Frame} {meth : Method} {c : Code} {Q : State → Prop} {cc : ByteArray} {pc : Nat}
variable {OB : Nat → Nat} {D : va_G} {DA : Nat → ClassId} {cl : List vw_C} {FT : Nat → Nat → FieldType} {TY : List zTy} {PHI : List (List Nat)} {sz : Nat} {T0 : zTp} {env0 : List Value} {nL : Nat} {st : zS} {KXf : (Nat → Nat) → Nat → State → Heap → Prop} {good : Nat → zS → Prop}
variable {TBL : List Cond} {own : String} {MT : List zM} {SG : List (Nat × zSig)} {PHS : List Nat} {ce : zCe} {mc ms : Nat} {b L : Nat} {xs : Nat → Int32}
theorem zl_chkP_app {A B : List zCu} (h1 : zl_chkP TY PHI cl FT MT SG PHS R nL mc ms cc ce A = true) (h2 : zl_chkP TY PHI cl FT MT SG PHS R nL mc ms cc ce B = true) : zl_chkP TY PHI cl FT MT SG PHS R nL mc ms cc ce (A ++ B) = true := by
  show (A ++ B).all _ = true
  rw [List.all_append, Bool.and_eq_true]
  exact ⟨h1, h2⟩
theorem zl_hk_ok (hg : z_Good p l e R s m args below meth c Q OB D DA cl TY PHI sz none false T0 s.heap env0 nL good) (hx : p.tables.exec = Jvm.exec) (hb : c.code = cc) (hX : va_X b L xs s s.heap) (hbl : b < s.heap.size) (hsz : sz = s.heap.size) (hL : L ≤ 6) (hOB : OB 0 = b) (he : ∀ i, i < 8 → env0[i]? = (zl_env b L xs)[i]?)
    {Ls : List (Nat × zS)} (h : zl_hk cc pc st = some Ls) (hall : ∀ q ∈ Ls, good q.1 q.2) : good pc st := by
  have hbA : ¬ sz ≤ b := by omega
  have h0 : ∀ {env : List Value} {i : Nat} {v : Value}, (∃ w, env = env0 ++ w) → (zl_env b L xs)[i]? = some v → i < 8 → env[i]? = some v := by
    intro env i v hw hv hi
    obtain ⟨w, rfl⟩ := hw
    exact z_app ((he i hi).trans hv)
  unfold zl_hk at h
  split at h
  · rename_i hd
    split at h
    · rename_i d S hS
      split at h
      · rename_i hV
        cases h
        have k0 : good (pc + 1) (z_stS st (1 :: S)) := hall _ (List.mem_singleton.mpr rfl)
        refine (hg _ _).mpr fun T H locs env ls stk hs => ?_
        obtain ⟨v, kk, rfl, e1, hk⟩ := z_stk_cons hS hs.2.2.2.1
        obtain ⟨v2, e2, e3⟩ := z_get_ok hs.2.2.2.2.1 hV
        rw [e1] at e2
        cases e2
        have e3 : v = .ref (OB 0) := e3
        rw [hOB] at e3
        subst e3
        have hmem := hs.2.2.2.2.2.2.2.2.2
        refine va_slen hx hb hX hbl hbA hmem.2.2.2.2 hd ?_
        exact (hg _ _).mp k0 T H locs env ls _ (z_sat_stS hs ⟨_, kk, rfl, h0 hs.2.1 (i := 1) rfl (by omega), hk⟩)
      · cases h
    · cases h
  · rename_i hd
    split at h
    · rename_i j d S hS
      split at h
      · rename_i r hV hJ
        cases hc : (z_ile 0 r.1 && z_ile r.2 5 && z_ile r.2 r.1 && (match z_lbs (z_R st) 3 1 j with
          | some k => z_ile 1 k
          | none => false)) with
        | false => rw [hc] at h; cases h
        | true =>
          rw [hc] at h
          cases h
          simp only [Bool.and_eq_true] at hc
          obtain ⟨⟨⟨c1, c2⟩, c3⟩, c4⟩ := hc
          have c1 := z_ile_ok c1
          have c2 := z_ile_ok c2
          have c3 := z_ile_ok c3
          have k0 : good (pc + 1) (z_stS st ((2 + r.1.toNat) :: S)) := hall _ (List.mem_singleton.mpr rfl)
          refine (hg _ _).mpr fun T H locs env ls stk hs => ?_
          obtain ⟨vj, kk, rfl, e1, hk⟩ := z_stk_cons hS hs.2.2.2.1
          obtain ⟨vd, kk2, rfl, f1, hk2⟩ := hk
          obtain ⟨v2, e2, i, rfl, hi⟩ := z_get_ok hs.2.2.2.2.1 hJ
          rw [e1] at e2
          cases e2
          obtain ⟨v3, f2, f3⟩ := z_get_ok hs.2.2.2.2.1 hV
          rw [f1] at f2
          cases f2
          have f3 : vd = .ref (OB 0) := f3
          rw [hOB] at f3
          subst f3
          have hmem := hs.2.2.2.2.2.2.2.2.2
          have hLv : env[1]? = some (.int (Int32.ofNat L)) := h0 hs.2.1 (i := 1) rfl (by omega)
          have hLi : (Int32.ofNat L).toInt = (L : Int) := Int32.toInt_ofNat_of_lt (by omega)
          split at c4
          · rename_i k hk4
            have c4 := z_ile_ok c4
            obtain ⟨vx, g1, g2⟩ := z_lbs_ok hs.2.2.2.2.2.2.2.1 hk4 hLv
            rw [e1] at g1
            cases g1
            have hi1 := hi.1
            have hi2 := hi.2
            have hir : i.toInt = r.1 := by omega
            have hcl : i.toNatClampNeg = r.1.toNat := by show i.toInt.toNat = _; rw [hir]
            have hin : vp_in i L := by
              intro hh
              rcases hh with hh | hh
              · have := Int32.lt_iff_toInt_lt.mp hh
                have e0 : (0 : Int32).toInt = 0 := rfl
                omega
              · rw [hcl] at hh
                omega
            refine va_sld hx hb hX hbl hbA hmem.2.2.2.2 hin hd ?_
            rw [hcl]
            refine (hg _ _).mp k0 T H locs env ls _ (z_sat_stS hs ⟨_, kk2, rfl, h0 hs.2.1 ?_ (by omega), hk2⟩)
            have hn : r.1.toNat < 6 := by omega
            generalize r.1.toNat = q at hn
            match q, hn with
            | 0, _ => rfl
            | 1, _ => rfl
            | 2, _ => rfl
            | 3, _ => rfl
            | 4, _ => rfl
            | 5, _ => rfl
          · cases c4
      · cases h
    · cases h
  · cases h
theorem zl_fin_ok (hg : z_Good p l e R s m args below meth c Q OB D DA cl TY PHI sz none false T0 s.heap env0 nL good) (hsz : sz = s.heap.size) (hend : ∀ pc H ls, decode cc pc = .ok (.ireturn, 1) → W p l e R s m args below meth c H [] mc ms Q (F0 m pc ls [.int 1])) (hd : decode cc pc = .ok (.ireturn, 1)) (h : zl_fin mc ms st = true) : good pc st := by
  refine (hg _ _).mpr fun T H locs env ls stk hs => ?_
  unfold zl_fin at h
  simp only [Bool.and_eq_true] at h
  obtain ⟨⟨h1, h2⟩, h3⟩ := h
  split at h1
  · rename_i r hS
    split at h1
    · rename_i a ha
      rw [Bool.and_eq_true] at h1
      have a1 := z_ile_ok h1.1
      have a2 := z_ile_ok h1.2
      obtain ⟨v, k, rfl, e1, hk⟩ := z_stk_cons hS hs.2.2.2.1
      have hk : k = [] := hk
      subst hk
      obtain ⟨v2, e2, x, rfl, hx⟩ := z_get_ok hs.2.2.2.2.1 ha
      rw [e1] at e2
      cases e2
      have hx1 : x = 1 := Int32.toInt.inj (by have := hx.1; have := hx.2; have e0 : (1 : Int32).toInt = 1 := rfl; omega)
      subst hx1
      have hmem := hs.2.2.2.2.2.2.2.2.2
      have := W.forget (locs := []) (L := locs) (fun q hq => by have := hmem.2.2.2.2.2.2 q hq; omega) (hend pc H ls hd)
      exact W.widen (Nat.le_of_ble_eq_true h2) (Nat.le_of_ble_eq_true h3) this
    · cases h1
  · cases h1
theorem zl_law (hx : p.tables.exec = Jvm.exec) (hb : c.code = cc) (hml : c.maxLocals = nL) (hX : va_X b L xs s s.heap) (hbl : b < s.heap.size) (hL : L ≤ 6) (hOB : OB 0 = b) (hD : z_Dy s m args TBL own D cl DA (z_tys DA)) (hXp : z_KXp s.heap.size (KXf OB s.heap.size)) (hKX : KXf OB s.heap.size s s.heap) (hKS : z_KS TBL TBL cl FT own MT ce.1) (hin : k_IN ce.1 = none) (hPH : ∀ a ∈ PHS, z_phok TY PHI a = true)
    (hok : ∀ g ∈ (k_CA ce.1).filterMap (fun a => SG[a.2]?), ∀ m2, MT[g.1]? = some m2 → z_OK TBL cl FT TY PHI KXf m2.1 m2.2.1 m2.2.2.1 m2.2.2.2.1 g.2) (hend : ∀ pc H ls, decode cc pc = .ok (.ireturn, 1) → W p l e R s m args below meth c H [] mc ms Q (F0 m pc ls [.int 1]))
    (h0 : zl_chk0 TY PHI cl FT MT SG PHS R nL mc ms cc ce = true) (hP : zl_chkP TY PHI cl FT MT SG PHS R nL mc ms cc ce ce.2.1 = true) {ls : Array Slot} (hls : z_ls nL ls (zl_env b L xs) [(0, 0)]) : W p l e R s m args below meth c s.heap [] 0 0 Q (F0 m 0 ls []) := by
  have hLi : (Int32.ofNat L).toInt = (L : Int) := Int32.toInt_ofNat_of_lt (by omega)
  have full : ∀ x : Int32, z_v OB (fun _ => none) (.inl z_full) (.int x) := fun x => ⟨x, rfl, z_in_full x⟩
  have hsat : z_sat OB D DA cl TY PHI s.heap.size none false (fun _ => none) s.heap (zl_env b L xs) nL zl_st (fun _ => none) s.heap [] (zl_env b L xs) ls [] := by
    refine ⟨rfl, ⟨[], by rw [List.append_nil]⟩, hls, rfl, fun q hq => ?_, fun q hq => absurd hq List.not_mem_nil, fun q hq => absurd hq List.not_mem_nil, fun q hq => absurd hq List.not_mem_nil, trivial, fun a t ht => absurd ht (by simp), ⟨fun a t ht => absurd ht (by simp), fun h => absurd h (by simp), z_fin_rf⟩, fun a t ht => absurd ht (by simp), fun q _ _ _ => ⟨rfl, rfl⟩, va_S.rf⟩
    rcases List.mem_cons.mp hq with rfl | hq
    · exact ⟨_, rfl, by show _ = Value.ref (OB 0); rw [hOB]⟩
    rcases List.mem_cons.mp hq with rfl | hq
    · exact ⟨_, rfl, _, rfl, by rw [z_in, hLi]; exact ⟨by show (0 : Int) ≤ _; omega, by show _ ≤ (6 : Int); omega⟩⟩
    rcases List.mem_cons.mp hq with rfl | hq
    · exact ⟨_, rfl, full _⟩
    rcases List.mem_cons.mp hq with rfl | hq
    · exact ⟨_, rfl, full _⟩
    rcases List.mem_cons.mp hq with rfl | hq
    · exact ⟨_, rfl, full _⟩
    rcases List.mem_cons.mp hq with rfl | hq
    · exact ⟨_, rfl, full _⟩
    rcases List.mem_cons.mp hq with rfl | hq
    · exact ⟨_, rfl, full _⟩
    rcases List.mem_cons.mp hq with rfl | hq
    · exact ⟨_, rfl, full _⟩
    cases hq
  refine z_runs (ng := 8) (ends := fun env2 => ∀ i, i < 8 → env2[i]? = (zl_env b L xs)[i]?) (fun env1 env2 he hgh i hi => (hgh i hi).trans (he i hi)) (fun env1 pc st Ls he hL2 hall => ?_) hP h0 (fun _ _ => rfl) (Nat.le_refl _) hsat
  have hgg : z_Good p l e R s m args below meth c Q OB D DA cl TY PHI s.heap.size none false (fun _ => none) s.heap env1 nL (fun pc st => ∀ T2 H2 locs2 env2 ls2 stk2, z_sat OB D DA cl TY PHI s.heap.size none false (fun _ => none) s.heap env1 nL st T2 H2 locs2 env2 ls2 stk2 → W p l e R s m args below meth c H2 locs2 (z_C st).1 (z_C st).2 Q (F0 m pc ls2 stk2)) := fun _ _ => Iff.rfl
  unfold z_hst at hL2
  split at hL2
  · rename_i L3 hL3
    cases hL2
    exact zl_hk_ok hgg hx hb hX hbl rfl hL hOB he hL3 hall
  refine z_stp_ok hgg hx hb hml hD (Nat.le_refl _) hXp hKX hKS (fun j hj => by rw [hin] at hj; cases hj) hPH hok (fun pc st hd hf => by cases hf) (fun pc st hd hf => zl_fin_ok hgg rfl hend hd hf) hL2 hall
end ZLAW
