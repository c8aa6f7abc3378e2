/-! The four kinds of calls. -/
def z_rcv (TY : List zTy) (st : zS) (cix : Nat) (a : Nat) : Bool := match z_get (z_V st) a with
  | some (.inr (.inl t)) => (match TY[t]? with
    | some (.inl o) => Nat.beq o.1 cix
    | _ => false)
  | _ => false
/-- kind 0 virtual, 1 static, 2 and 3 the making of an object -/
def z_inv (TY : List zTy) (PHI : List (List Nat)) (cl : List vw_C) (FT : Nat → Nat → FieldType) (R : Room) (pu : Bool) (kind cix maxL np : Nat) (g : zSig) (st : zS) : Option (List zS) :=
  cond (match kind with
    | 0 => Nat.beq (g_prm g).length (np + 1) && (g_raw g).isNone && (match (z_S st)[np]? with
      | some a => z_rcv TY st cix a
      | none => false)
    | 1 => Nat.beq (g_prm g).length np && (g_raw g).isNone
    | 4 => Nat.beq (g_prm g).length np && (g_raw g).isNone
    | _ => Nat.beq (g_prm g).length (np + 1) && (g_raw g).isSome) (z_cal TY PHI cl FT R pu maxL g st) none
def z_ins (kind i : Nat) : Instr := match kind with
  | 0 => .invokevirtual i
  | 1 => .invokestatic i
  | 4 => .invokestatic i
  | _ => .invokespecial i
section ZCALLS4
variable {p : Program} {l : Launch} {e : Env} {R : Room} {s : State} {m : MethodId} {args : Array Value} {below : List Frame} {meth : Method} {c : Code} {Q : State → Prop} {cc : ByteArray} {pc : Nat}
variable {OB : Nat → Nat} {D : va_G} {DA : Nat → ClassId} {cl : List vw_C} {FT : Nat → Nat → FieldType} {TY : List zTy} {PHI : List (List Nat)} {sz : Nat} {raw : Option Nat} {pu : Bool} {T0 : zTp} {H0 : Heap} {env0 : List Value} {nL : Nat} {st st' : zS} {T : zTp} {H : Heap} {locs : List Loc} {env : List Value} {ls : Array Slot} {stk : List Value} {g : zSig} {KXf : (Nat → Nat) → Nat → State → Heap → Prop} {rest : List Value} {cells slots : Nat} {good : Nat → zS → Prop}
variable {Ts TBL : List Cond} {own : String} {y : MethodName} {bytes : ByteArray} {maxL np i : Nat} {ret : Option FieldType}
theorem z_pre_ok {As gs : List Nat} {va : List Value} {KX : State → Heap → Prop} (hA : As.length = va.length) (hl : va.length = (g_prm g).length) (hA2 : ∀ (j a : Nat), As[j]? = some a → ∃ x, va[j]? = some x ∧ env[a]? = some x) (hgl : gs.length = (g_loc g).length) (hgs : ∀ (i : Nat) (q : zLoc × zV) (w : Nat), (g_loc g)[i]? = some q → gs[i]? = some w → ∃ v : Value, env[w]? = some v ∧ z_lv D cl H (va[q.1.1]?) q.1 v)
    (hs : z_sat OB D DA cl TY PHI sz raw pu T0 H0 env0 nL st T H locs env ls stk) (h : z_pck FT cl g As gs st = true) (hK : va_K D cl (z_tys DA) s) (hX : KX s H) (hXp : z_KXp sz KX) (hsz : sz ≤ H.size) : ∀ U : State, U.heap = H → s.WarmedH U.vm → z_Pre OB D DA cl FT TY sz KX g T va.toArray U := by
  intro U hU hW
  unfold z_pck at h
  simp only [Bool.and_eq_true] at h
  obtain ⟨⟨h1, h2⟩, h3⟩ := h
  have hmem := hs.2.2.2.2.2.2.2.2.2
  refine ⟨va, rfl, hl, fun j c0 hj hr => ?_, fun ci hci => ?_, fun q hq => ?_, by rw [hU]; exact hmem.1, hmem.2.1.1, by rw [hU]; exact hsz, va_K.moved hW.alike hK, by rw [hU]; exact hXp.1 s U H hX hW⟩
  · have hlt : j < (g_prm g).length := (List.getElem?_eq_some_iff.mp hj).1
    have h4 := List.all_eq_true.mp h1 j (List.mem_range.mpr hlt)
    have hAj := List.getElem?_eq_getElem (show j < As.length by omega)
    rw [hj, hAj] at h4
    have h4 : ((match g_raw g with
      | some _ => Nat.beq j 0
      | none => false) || (match z_get (z_V st) As[j] with
      | some c' => z_le c' c0
      | none => false)) = true := h4
    rw [Bool.or_eq_true] at h4
    obtain ⟨x, x1, x2⟩ := hA2 _ _ hAj
    rcases h4 with h4 | h4
    · cases hrr : g_raw g with
      | none => rw [hrr] at h4; cases h4
      | some ci =>
        rw [hrr] at h4 hr
        have := z_beq h4
        rcases hr with h | h
        · cases h
        · exact absurd this h
    · split at h4
      · rename_i c1 hc1
        obtain ⟨w, e1, e2⟩ := z_get_ok hs.2.2.2.2.1 hc1
        rw [x2] at e1
        cases e1
        exact ⟨_, x1, z_le_ok h4 e2⟩
      · cases h4
  · rw [hci] at h2
    have h2 : (match As[0]?, cl[ci]? with
      | some a, some r => (z_X st).any (fun p => Nat.beq p.1 a && Nat.beq p.2 ci) && (List.range r.2.2).all (fun k => !(z_zf (FT ci k)) || (match z_ffind st a ci k with
        | some w => (match z_get (z_V st) w with
          | some (.inl z) => z_ile 0 z.1 && z_ile z.2 0
          | _ => false)
        | none => false))
      | _, _ => false) = true := h2
    split at h2
    · rename_i a r ha hr
      rw [Bool.and_eq_true] at h2
      obtain ⟨q, hq, hq2⟩ := List.any_eq_true.mp h2.1
      rw [Bool.and_eq_true] at hq2
      obtain ⟨ad, g1, g2, g3, r2, V, g4, g5⟩ := z_fx_in hs.2.2.2.2.2.2.2.2.1 q hq
      rw [z_beq hq2.1] at g1
      rw [z_beq hq2.2] at g4 g5
      rw [hr] at g4
      cases g4
      obtain ⟨x, x1, x2⟩ := hA2 _ _ ha
      rw [g1] at x2
      cases x2
      refine ⟨ad, r, V, x1, g2, g3.1, hr, by rw [hU]; exact g5, fun k hk hz => ?_⟩
      have h5 := List.all_eq_true.mp h2.2 k (List.mem_range.mpr hk)
      rw [hz] at h5
      have h5 : (match z_ffind st a ci k with
        | some w => (match z_get (z_V st) w with
          | some (.inl z) => z_ile 0 z.1 && z_ile z.2 0
          | _ => false)
        | none => false) = true := by simpa using h5
      split at h5
      · rename_i w hw
        split at h5
        · rename_i z hz2
          rw [Bool.and_eq_true] at h5
          obtain ⟨a2, v2, y1, y2, cell, y3, y4, y5⟩ := z_ffind_ok hw hs
          rw [g1] at y1
          cases y1
          obtain ⟨v3, e1, x5, rfl, x6, x7⟩ := z_get_ok hs.2.2.2.2.1 hz2
          rw [y2] at e1
          cases e1
          obtain ⟨cell2, z1, z2, z3, z4⟩ := g5
          rw [y3] at z1
          cases z1
          have := z4 k hk
          rw [y5] at this
          have l1 := z_ile_ok h5.1
          have l2 := z_ile_ok h5.2
          have hx0 : x5 = 0 := z_int0 (by omega)
          rw [hx0] at this
          exact (Option.some.inj this).symm
        · cases h5
      · cases h5
    · cases h2
  · obtain ⟨i, hi⟩ := List.getElem?_of_mem hq
    have hlt : i < (g_loc g).length := (List.getElem?_eq_some_iff.mp hi).1
    have h4 := List.all_eq_true.mp h3 i (List.mem_range.mpr hlt)
    have hgi := List.getElem?_eq_getElem (show i < gs.length by omega)
    rw [hi, hgi] at h4
    obtain ⟨v, y1, y2⟩ := hgs i q _ hi hgi
    refine ⟨v, by rw [hU]; exact y2, ?_⟩
    have h4 : (match z_get (z_V st) gs[i] with
      | some c => z_le c q.2
      | none => false) = true := h4
    split at h4
    · rename_i c1 hc1
      obtain ⟨w, e1, e2⟩ := z_get_ok hs.2.2.2.2.1 hc1
      rw [y1] at e1
      cases e1
      exact z_le_ok h4 e2
    · cases h4
theorem z_foldr {f : zP → Option (List zS)} : ∀ {L : List zP} {r : List zS} {P : zP}, L.foldr (fun P acc => match f P, acc with
      | some a, some b => some (a ++ b)
      | _, _ => none) (some []) = some r → P ∈ L → ∃ a, f P = some a ∧ ∀ x ∈ a, x ∈ r
  | [], _, _, _, h => absurd h List.not_mem_nil
  | q :: L, r, P, h, hP => by
    rw [List.foldr_cons] at h
    split at h
    · rename_i a b ha hb
      cases h
      rcases List.mem_cons.mp hP with rfl | hP
      · exact ⟨a, ha, fun x hx => List.mem_append_left _ hx⟩
      · obtain ⟨a2, h1, h2⟩ := z_foldr hb hP
        exact ⟨a2, h1, fun x hx => List.mem_append_right _ (h2 x hx)⟩
    · cases h
theorem z_blind {KX : State → Heap → Prop} (hXp : z_KXp sz KX) : FrameBlind (z_Pre OB D DA cl FT TY sz KX g T) := by
  intro a U gf mk h
  obtain ⟨vals, h1, h2, h3, h4, h5, h6, h7, h8, h9, h10⟩ := h
  exact ⟨vals, h1, h2, h3, h4, h5, h6, h7, h8, va_K.moved (u := U) (U := U.calling gf mk a) (Vm.Alike.refl U.vm) h9, hXp.2.2 U (U.calling gf mk a) _ rfl h10⟩
theorem z_r_inv (hg : z_Good p l e R s m args below meth c Q OB D DA cl TY PHI sz raw pu T0 H0 env0 nL good) (hx : p.tables.exec = Jvm.exec) (hb : c.code = cc) (hml : c.maxLocals = nL) (hD : z_Dy s m args Ts own D cl DA (z_tys DA)) (hsz : sz ≤ H0.size) (hXp : z_KXp sz (KXf OB sz)) (hX : KXf OB sz s H0)
    {kind cix : Nat} (hok : z_OK TBL cl FT TY PHI KXf y bytes maxL ret g) (hlk : z_lk Ts own kind i y bytes maxL ret np) (hgd : ∀ w ∈ TBL, w ∈ Ts ∧ z_gw w = true) (hci : kind = 0 → ∃ r, cl[cix]? = some r ∧ r.1 = y.cls)
    (hd : decode cc pc = .ok (z_ins kind i, 3)) {L : List zS} (h : z_inv TY PHI cl FT R pu kind cix maxL np g st = some L) (hall : ∀ st' ∈ L, good (pc + 3) st') : good pc st := by
  refine (hg _ _).mpr fun T H locs env ls stk hs => ?_
  unfold z_inv at h
  obtain ⟨hcode, hini, hmh, hnp, hkind⟩ := hlk
  obtain ⟨hts, hown, hK, htys⟩ := hD
  have hmem := hs.2.2.2.2.2.2.2.2.2
  have hH : sz ≤ H.size := Nat.le_trans hsz hmem.2.2.2.2.1
  have hXH : KXf OB sz s H := hXp.2.1 s H0 H hX hmem.2.2.2.2.1 hmem.2.2.2.2.2.1
  have hnp2 : ∀ sig, parseMethodDescriptor y.desc = some sig → np = sig.parameters.length := by
    intro sig hsig
    rw [hsig] at hnp
    exact (Option.some.inj hnp).symm
  have hwsG : ∀ w ∈ (Cond.code y bytes maxL ret :: TBL), ∀ (a' : Array Value) (U : State), s.WarmedH U.vm → w.before a' U = true := by
    refine z_pay hts (fun w hw => ?_)
    rcases List.mem_cons.mp hw with rfl | hw
    · exact ⟨hcode, rfl⟩
    · exact ⟨(hgd w hw).1, (hgd w hw).2⟩
  -- the common part
  have common : ∀ (hc : z_cal TY PHI cl FT R pu maxL g st = some L), ∃ (va vr : List Value), stk = va.reverse ++ vr ∧ va.length = (g_prm g).length ∧ (∀ U : State, U.heap = H → s.WarmedH U.vm → z_Pre OB D DA cl FT TY sz (KXf OB sz) g T va.toArray U) ∧
      (vr.map fun v => v.category).sum ≤ 8 ∧ (g_rm g).1 + 1 ≤ R.frames ∧ 8 + (maxL + 11) + (g_rm g).2 ≤ R.locals ∧ (z_C st).1 + (g_mk g).1 ≤ R.cells ∧ (z_C st).2 + (g_mk g).2 ≤ R.slots ∧
      ((g_raw g).isSome = true → ∃ b : Nat, va[0]? = some (.ref b)) ∧ (∀ (a n : Nat), (g_prm g).length = n + 1 → (z_S st)[n]? = some a → ∃ v, va[0]? = some v ∧ env[a]? = some v) ∧
      ∀ (v : Option Value) (s1 t : State) (H1 : Heap) (locs1 : List Loc), s1.heap = H → t.heap = H1 → z_Post OB D DA cl TY PHI sz g T va.toArray s1 (.returned v) t → va_S (fun q => sz ≤ q) H0 H1 locs1 → W p l e R s m args below meth c H1 locs1 ((z_C st).1 + (g_mk g).1) ((z_C st).2 + (g_mk g).2) Q (F0 m (pc + 3) ls (v.toList ++ vr)) := by
    intro hc
    unfold z_cal at hc
    split at hc
    · rename_i As rs hpop
      obtain ⟨va, vr, rfl, w1, w2, w3, w4⟩ := z_popn_ok _ hpop hs.2.2.2.1
      split at hc
      · rename_i st1 gs hgl
        have hs0 := z_sat_stS hs w3
        obtain ⟨x, g1, ⟨x1, x2, x3, x4, x5, x6⟩, g3, g4⟩ := z_gls_ok hgl hs0
        split at hc
        · rename_i n hn
          cases hcc : (Nat.ble n 8 && z_pck FT cl g As gs st1 && Nat.ble ((z_C st1).1 + (g_mk g).1) R.cells && Nat.ble ((z_C st1).2 + (g_mk g).2) R.slots && Nat.ble ((g_rm g).1 + 1) R.frames && Nat.ble (8 + (maxL + 11) + (g_rm g).2) R.locals && (Nat.beq (g_ph g) 0 || (Nat.beq (z_ph st1) 0 || (Nat.blt (z_ph st1) 1000 && Nat.blt (g_ph g) 1000))) && (g_pur g || !pu)) with
          | false => rw [hcc] at hc; cases hc
          | true =>
            rw [hcc] at hc
            simp only [Bool.and_eq_true] at hcc
            obtain ⟨⟨⟨⟨⟨⟨⟨c1, c2⟩, c3⟩, c4⟩, c5⟩, c6⟩, c7⟩, c8⟩ := hcc
            have hcat := z_csum_ok hn g1 (z_stk_app w3)
            have hA2 : ∀ (j a : Nat), As[j]? = some a → ∃ x', va[j]? = some x' ∧ (env ++ x)[a]? = some x' := fun j a hj => by
              obtain ⟨v, e1, e2⟩ := w4 j a hj
              exact ⟨v, e1, z_app e2⟩
            have hgs : ∀ (i : Nat) (q : zLoc × zV) (w : Nat), (g_loc g)[i]? = some q → gs[i]? = some w → ∃ v : Value, (env ++ x)[w]? = some v ∧ z_lv D cl H (va[q.1.1]?) q.1 v := by
              intro i q w hi hw
              obtain ⟨v, d, m1, m2, m3⟩ := g4 i q w hi hw
              obtain ⟨v2, n1, n2⟩ := hA2 _ _ m2
              rw [n2, ← n1] at m3
              exact ⟨v, m1, m3⟩
            have hCst : z_C st1 = z_C st := x4
            have hlen : va.length = (g_prm g).length := w1
            refine ⟨va, vr, rfl, hlen, z_pre_ok (w2.trans w1.symm) hlen hA2 g3 hgs g1 c2 hK hXH hXp hH, by rw [hcat]; exact Nat.le_of_ble_eq_true c1, Nat.le_of_ble_eq_true c5, Nat.le_of_ble_eq_true c6, by rw [← hCst]; exact Nat.le_of_ble_eq_true c3, by rw [← hCst]; exact Nat.le_of_ble_eq_true c4, fun hr => ?_, fun a n hpn ha => ?_, fun v s1 t H1 locs1 y1 y2 y3 y4 => ?_⟩
            · cases hrr : g_raw g with
              | none => rw [hrr] at hr; cases hr
              | some ci =>
                obtain ⟨vals, z1, _, _, z4, _⟩ := z_pre_ok (KX := KXf OB sz) (w2.trans w1.symm) hlen hA2 g3 hgs g1 c2 hK hXH hXp hH { s with heap := H } rfl (State.WarmedH.refl s)
                have : va = vals := by have := congrArg Array.toList z1; simpa using this
                subst this
                obtain ⟨a, r, V, z5, _⟩ := z4 ci hrr
                exact ⟨a, z5⟩
            · obtain ⟨h5, h6⟩ := z_cond hpop
              cases h6
              have hle := Nat.le_of_ble_eq_true h5
              have h0 : ((List.take (g_prm g).length (z_S st)).reverse)[0]? = some a := by
                rw [hpn]
                rw [hpn] at hle
                rw [List.getElem?_reverse (by simp; omega)]
                have : (List.take (n + 1) (z_S st)).length - 1 - 0 = n := by simp; omega
                rw [this, List.getElem?_take_of_lt (by omega)]
                exact ha
              exact w4 0 a h0
            · have hph : g_ph g = 0 ∨ (z_ph st1 = 0 ∨ (Nat.blt (z_ph st1) 1000 = true ∧ Nat.blt (g_ph g) 1000 = true)) := by
                rw [Bool.or_eq_true, Bool.or_eq_true, Bool.and_eq_true] at c7
                exact c7.imp z_beq (fun h => h.imp z_beq id)
              have hpu : g_pur g = true ∨ pu = false := by
                rw [Bool.or_eq_true] at c8
                exact c8.imp id (fun h => by simpa using h)
              have hraw : ∀ ci, g_raw g = some ci → ∃ a, As[0]? = some a ∧ z_isx st1 a = true := by
                intro ci hci
                unfold z_pck at c2
                simp only [Bool.and_eq_true] at c2
                have c2 := c2.1.2
                rw [hci] at c2
                have c2 : (match As[0]?, cl[ci]? with
                  | some a, some r => (z_X st1).any (fun p => Nat.beq p.1 a && Nat.beq p.2 ci) && (List.range r.2.2).all (fun k => !(z_zf (FT ci k)) || (match z_ffind st1 a ci k with
                    | some w => (match z_get (z_V st1) w with
                      | some (.inl z) => z_ile 0 z.1 && z_ile z.2 0
                      | _ => false)
                    | none => false))
                  | _, _ => false) = true := c2
                split at c2
                · rename_i a r ha hr
                  rw [Bool.and_eq_true] at c2
                  obtain ⟨q, hq, hq2⟩ := List.any_eq_true.mp c2.1
                  rw [Bool.and_eq_true] at hq2
                  exact ⟨a, ha, List.any_eq_true.mpr ⟨q, hq, hq2.1⟩⟩
                · cases c2
              obtain ⟨T', P, z1, z2, z3, z4, z5⟩ := z_bas_ok g1 (w2.trans w1.symm) hA2 hraw hph hpu y1 y2 y4 y3
              obtain ⟨L1, hL1, hL2⟩ := z_foldr hc z2
              obtain ⟨st', env', u1, u2, u3⟩ := z_cas_ok (w2.trans w1.symm) hA2 g3 hgs z1 z3 hL1
              have kk := (hg _ _).mp (hall st' (hL2 st' u1)) T' H1 locs1 env' ls _ u3
              rw [u2, hCst] at kk
              exact kk
        · cases hc
      · cases hc
    · cases hc
  match kind, hkind, hd, hci, h with
  | 0, hkind, hd, hci, h =>
    obtain ⟨k1, k2, k3⟩ := hkind
    cases hcond : (Nat.beq (g_prm g).length (np + 1) && (g_raw g).isNone && (match (z_S st)[np]? with
      | some a => z_rcv TY st cix a
      | none => false)) with
    | false => simp only [hcond] at h; cases h
    | true =>
      simp only [hcond] at h
      obtain ⟨va, vr, rfl, w1, w2, w3, w4, w5, w6, w7, w8, w9, w10⟩ := common h
      simp only [Bool.and_eq_true] at hcond
      obtain ⟨⟨d1, d2⟩, d3⟩ := hcond
      have hpl := z_beq d1
      cases hsn : (z_S st)[np]? with
      | none => rw [hsn] at d3; cases d3
      | some a =>
        rw [hsn] at d3
        have d3 : z_rcv TY st cix a = true := d3
        unfold z_rcv at d3
        split at d3
        · rename_i t ht
          split at d3
          · rename_i o hto
            obtain ⟨ci, fl⟩ := o
            have hcc : ci = cix := z_beq d3
            subst hcc
            obtain ⟨b, r, V, y1, y2, y3, y4, ⟨cell, y5, y6, y7, y8⟩, y9⟩ := z_obj hs ht hto
            obtain ⟨v0, e1, e2⟩ := w9 a np hpl hsn
            rw [y1] at e2
            cases e2
            obtain ⟨r2, hr2, hr3⟩ := hci rfl
            rw [y3] at hr2
            cases hr2
            cases va with
            | nil => simp at e1
            | cons v0 As2 =>
              have : v0 = .ref b := by simpa using e1
              subst this
              have hAl : As2.length = np := by
                have : (Value.ref b :: As2).length = (g_prm g).length := w1
                rw [hpl] at this
                simpa using this
              have hstk : (Value.ref b :: As2).reverse ++ vr = As2.reverse ++ .ref b :: vr := by simp
              rw [hstk]
              refine z_after (va_runV (b := b) (As := As2) (rest := vr) (C := y.cls) (n := np) ⟨hx, hb, hml, hown, hts⟩ (hok l OB D DA sz T) ⟨⟨rfl, rfl, w4, w5, hwsG, List.mem_cons_self, hts _ hcode, hts _ hini, hmh, hnp2, hts _ k1⟩, hts _ k2, hts _ k3⟩ ⟨z_blind hXp, ⟨cell, y5, by rw [y7]; rfl, ?_⟩, w2⟩ rfl hAl ?_ rfl (lv_room w3) hd ⟨w6, w7⟩) hmem.2.2.2.2 w10
              · rw [← hr3, y6]; exact (hK.1 _ _ y3).2.1
              · obtain ⟨lv, z1, _⟩ := hs.2.2.1; exact z1.1
          · cases d3
        · cases d3
  | 1, hkind, hd, hci, h =>
    obtain ⟨k1, k2⟩ := hkind
    cases hcond : (Nat.beq (g_prm g).length np && (g_raw g).isNone) with
    | false => simp only [hcond] at h; cases h
    | true =>
      simp only [hcond] at h
      obtain ⟨va, vr, rfl, w1, w2, w3, w4, w5, w6, w7, w8, w9, w10⟩ := common h
      simp only [Bool.and_eq_true] at hcond
      have hpl := z_beq hcond.1
      refine z_after (va_runS (As := va) (rest := vr) (n := np) ⟨hx, hb, hml, hown, hts⟩ (hok l OB D DA sz T) ⟨⟨rfl, rfl, w4, w5, hwsG, List.mem_cons_self, hts _ hcode, hts _ hini, hmh, hnp2, hts _ k1⟩, hts _ k2⟩ ⟨z_blind hXp, w2⟩ rfl (w1.trans hpl) ?_ rfl (lv_room w3) hd ⟨w6, w7⟩) hmem.2.2.2.2 w10
      obtain ⟨lv, z1, _⟩ := hs.2.2.1
      exact z1.1
  | 2, hkind, hd, hci, h =>
    obtain ⟨k1, k2, k3, rfl⟩ := hkind
    cases hcond : (Nat.beq (g_prm g).length (np + 1) && (g_raw g).isSome) with
    | false => simp only [hcond] at h; cases h
    | true =>
      simp only [hcond] at h
      obtain ⟨va, vr, rfl, w1, w2, w3, w4, w5, w6, w7, w8, w9, w10⟩ := common h
      simp only [Bool.and_eq_true] at hcond
      have hpl := z_beq hcond.1
      obtain ⟨b, hb0⟩ := w8 hcond.2
      cases va with
      | nil => simp at hb0
      | cons v0 As2 =>
        have : v0 = .ref b := by simpa using hb0
        subst this
        have hAl : As2.length = np := by
          have : (Value.ref b :: As2).length = (g_prm g).length := w1
          rw [hpl] at this
          simpa using this
        have hstk : (Value.ref b :: As2).reverse ++ vr = As2.reverse ++ .ref b :: vr := by simp
        rw [hstk]
        refine z_after (va_runI (b := b) (As := As2) (rest := vr) (n := np) ⟨hx, hb, hml, hown, hts⟩ (hok l OB D DA sz T) ⟨⟨rfl, rfl, w4, w5, hwsG, List.mem_cons_self, hts _ hcode, hts _ hini, hmh, hnp2, hts _ k1⟩, k3, hts _ k2⟩ ⟨z_blind hXp, w2⟩ rfl hAl ?_ rfl (lv_room w3) hd ⟨w6, w7⟩) hmem.2.2.2.2 w10
        obtain ⟨lv, z1, _⟩ := hs.2.2.1
        exact z1.1
  | 3, hkind, hd, hci, h =>
    obtain ⟨⟨host, k1⟩, k2, k3, rfl⟩ := hkind
    cases hcond : (Nat.beq (g_prm g).length (np + 1) && (g_raw g).isSome) with
    | false => simp only [hcond] at h; cases h
    | true =>
      simp only [hcond] at h
      obtain ⟨va, vr, rfl, w1, w2, w3, w4, w5, w6, w7, w8, w9, w10⟩ := common h
      simp only [Bool.and_eq_true] at hcond
      have hpl := z_beq hcond.1
      obtain ⟨b, hb0⟩ := w8 hcond.2
      cases va with
      | nil => simp at hb0
      | cons v0 As2 =>
        have : v0 = .ref b := by simpa using hb0
        subst this
        have hAl : As2.length = np := by
          have : (Value.ref b :: As2).length = (g_prm g).length := w1
          rw [hpl] at this
          simpa using this
        have hstk : (Value.ref b :: As2).reverse ++ vr = As2.reverse ++ .ref b :: vr := by simp
        rw [hstk]
        refine z_after (va_runIN (b := b) (As := As2) (rest := vr) (n := np) ⟨hx, hb, hml, hown, hts⟩ (hok l OB D DA sz T) ⟨⟨⟨rfl, rfl, w4, w5, hwsG, List.mem_cons_self⟩, hts _ hcode, hts _ hini, hmh, hnp2, hts _ k1⟩, k3, hts _ k2⟩ ⟨z_blind hXp, w2⟩ rfl hAl ?_ rfl (lv_room w3) hd ⟨w6, w7⟩) hmem.2.2.2.2 w10
        obtain ⟨lv, z1, _⟩ := hs.2.2.1
        exact z1.1
  | 4, hkind, hd, hci, h =>
    obtain ⟨⟨host, k1⟩, k2⟩ := hkind
    cases hcond : (Nat.beq (g_prm g).length np && (g_raw g).isNone) with
    | false => simp only [hcond] at h; cases h
    | true =>
      simp only [hcond] at h
      obtain ⟨va, vr, rfl, w1, w2, w3, w4, w5, w6, w7, w8, w9, w10⟩ := common h
      simp only [Bool.and_eq_true] at hcond
      have hpl := z_beq hcond.1
      refine z_after (va_runSN (As := va) (rest := vr) (n := np) ⟨hx, hb, hml, hown, hts⟩ (hok l OB D DA sz T) ⟨⟨⟨rfl, rfl, w4, w5, hwsG, List.mem_cons_self⟩, hts _ hcode, hts _ hini, hmh, hnp2, hts _ k1⟩, hts _ k2, trivial⟩ ⟨z_blind hXp, w2⟩ rfl (w1.trans hpl) ?_ rfl (lv_room w3) hd ⟨w6, w7⟩) hmem.2.2.2.2 w10
      obtain ⟨lv, z1, _⟩ := hs.2.2.1
      exact z1.1
  | k + 5, hkind, hd, hci, h =>
    obtain ⟨⟨host, k1⟩, k2, k3, rfl⟩ := hkind
    cases hcond : (Nat.beq (g_prm g).length (np + 1) && (g_raw g).isSome) with
    | false => simp only [hcond] at h; cases h
    | true =>
      simp only [hcond] at h
      obtain ⟨va, vr, rfl, w1, w2, w3, w4, w5, w6, w7, w8, w9, w10⟩ := common h
      simp only [Bool.and_eq_true] at hcond
      have hpl := z_beq hcond.1
      obtain ⟨b, hb0⟩ := w8 hcond.2
      cases va with
      | nil => simp at hb0
      | cons v0 As2 =>
        have : v0 = .ref b := by simpa using hb0
        subst this
        have hAl : As2.length = np := by
          have : (Value.ref b :: As2).length = (g_prm g).length := w1
          rw [hpl] at this
          simpa using this
        have hstk : (Value.ref b :: As2).reverse ++ vr = As2.reverse ++ .ref b :: vr := by simp
        rw [hstk]
        refine z_after (va_runIN (b := b) (As := As2) (rest := vr) (n := np) ⟨hx, hb, hml, hown, hts⟩ (hok l OB D DA sz T) ⟨⟨⟨rfl, rfl, w4, w5, hwsG, List.mem_cons_self⟩, hts _ hcode, hts _ hini, hmh, hnp2, hts _ k1⟩, k3, hts _ k2⟩ ⟨z_blind hXp, w2⟩ rfl hAl ?_ rfl (lv_room w3) hd ⟨w6, w7⟩) hmem.2.2.2.2 w10
        obtain ⟨lv, z1, _⟩ := hs.2.2.1
        exact z1.1
end ZCALLS4
