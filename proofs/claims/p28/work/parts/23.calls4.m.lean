/-! 23.calls4, 24.step, 25.step2, 26.cuts, 27.method, 28.closed, 29.hooks, 30.strings, 32.words, 34.weak, 35.loop, 36.loop2, 37.start, 37a.kx, 37b.words -/
section
/-! The four kinds of calls. -/
def z_rcv (TY : List zTy) (st : zS) (cix : Nat) (a : Nat) : Bool := match z_get (z_V st) a with
  | some (.inr (.inl t)) => (match TY[t]? with
    | some (.inl o) => Nat.beq o.1 cix
    | _ => false)
  | _ => false
/-- kind 0 virtual, 1 static, 2 and 3 the making of an object -/
def z_inv (TY : List zTy) (PHI : List (List Nat)) (cl : List vw_C) (FT : Nat → Nat → FieldType) (R : Room) (pu : Bool) (kind cix maxL np : Nat) (g : zSig) (st : zS) : Option (List zS) :=
  cond (match kind with
    | 0 => Nat.beq (g_prm g).length (np + 1) && (g_raw g).isNone && (match (z_S st)[np]? with
      | some a => z_rcv TY st cix a
      | none => false)
    | 1 => Nat.beq (g_prm g).length np && (g_raw g).isNone
    | 4 => Nat.beq (g_prm g).length np && (g_raw g).isNone
    | _ => Nat.beq (g_prm g).length (np + 1) && (g_raw g).isSome) (z_cal TY PHI cl FT R pu maxL g st) none
def z_ins (kind i : Nat) : Instr := match kind with
  | 0 => .invokevirtual i
  | 1 => .invokestatic i
  | 4 => .invokestatic i
  | _ => .invokespecial i
section ZCALLS4
variable {p : Program} {l : Launch} {e : Env} {R : Room} {s : State} {m : MethodId} {args : Array Value} {below : List Frame} {meth : Method} {c : Code} {Q : State → Prop} {cc : ByteArray} {pc : Nat}
variable {OB : Nat → Nat} {D : va_G} {DA : Nat → ClassId} {cl : List vw_C} {FT : Nat → Nat → FieldType} {TY : List zTy} {PHI : List (List Nat)} {sz : Nat} {raw : Option Nat} {pu : Bool} {T0 : zTp} {H0 : Heap} {env0 : List Value} {nL : Nat} {st st' : zS} {T : zTp} {H : Heap} {locs : List Loc} {env : List Value} {ls : Array Slot} {stk : List Value} {g : zSig} {KXf : (Nat → Nat) → Nat → State → Heap → Prop} {rest : List Value} {cells slots : Nat} {good : Nat → zS → Prop}
variable {Ts TBL : List Cond} {own : String} {y : MethodName} {bytes : ByteArray} {maxL np i : Nat} {ret : Option FieldType}
theorem z_pre_ok {As gs : List Nat} {va : List Value} {KX : State → Heap → Prop} (hA : As.length = va.length) (hl : va.length = (g_prm g).length) (hA2 : ∀ (j a : Nat), As[j]? = some a → ∃ x, va[j]? = some x ∧ env[a]? = some x) (hgl : gs.length = (g_loc g).length) (hgs : ∀ (i : Nat) (q : zLoc × zV) (w : Nat), (g_loc g)[i]? = some q → gs[i]? = some w → ∃ v : Value, env[w]? = some v ∧ z_lv D cl H (va[q.1.1]?) q.1 v)
    (hs : z_sat OB D DA cl TY PHI sz raw pu T0 H0 env0 nL st T H locs env ls stk) (h : z_pck FT cl g As gs st = true) (hK : va_K D cl (z_tys DA) s) (hX : KX s H) (hXp : z_KXp sz KX) (hsz : sz ≤ H.size) : ∀ U : State, U.heap = H → s.WarmedH U.vm → z_Pre OB D DA cl FT TY sz KX g T va.toArray U := by
  intro U hU hW
  unfold z_pck at h
  simp only [Bool.and_eq_true] at h
  obtain ⟨⟨h1, h2⟩, h3⟩ := h
  have hmem := hs.2.2.2.2.2.2.2.2.2
  refine ⟨va, rfl, hl, fun j c0 hj hr => ?_, fun ci hci => ?_, fun q hq => ?_, by rw [hU]; exact hmem.1, hmem.2.1.1, by rw [hU]; exact hsz, va_K.moved hW.alike hK, by rw [hU]; exact hXp.1 s U H hX hW⟩
  · have hlt : j < (g_prm g).length := (List.getElem?_eq_some_iff.mp hj).1
    have h4 := List.all_eq_true.mp h1 j (List.mem_range.mpr hlt)
    have hAj := List.getElem?_eq_getElem (show j < As.length by omega)
    rw [hj, hAj] at h4
    have h4 : ((match g_raw g with
      | some _ => Nat.beq j 0
      | none => false) || (match z_get (z_V st) As[j] with
      | some c' => z_le c' c0
      | none => false)) = true := h4
    rw [Bool.or_eq_true] at h4
    obtain ⟨x, x1, x2⟩ := hA2 _ _ hAj
    rcases h4 with h4 | h4
    · cases hrr : g_raw g with
      | none => rw [hrr] at h4; cases h4
      | some ci =>
        rw [hrr] at h4 hr
        have := z_beq h4
        rcases hr with h | h
        · cases h
        · exact absurd this h
    · split at h4
      · rename_i c1 hc1
        obtain ⟨w, e1, e2⟩ := z_get_ok hs.2.2.2.2.1 hc1
        rw [x2] at e1
        cases e1
        exact ⟨_, x1, z_le_ok h4 e2⟩
      · cases h4
  · rw [hci] at h2
    have h2 : (match As[0]?, cl[ci]? with
      | some a, some r => (z_X st).any (fun p => Nat.beq p.1 a && Nat.beq p.2 ci) && (List.range r.2.2).all (fun k => !(z_zf (FT ci k)) || (match z_ffind st a ci k with
        | some w => (match z_get (z_V st) w with
          | some (.inl z) => z_ile 0 z.1 && z_ile z.2 0
          | _ => false)
        | none => false))
      | _, _ => false) = true := h2
    split at h2
    · rename_i a r ha hr
      rw [Bool.and_eq_true] at h2
      obtain ⟨q, hq, hq2⟩ := List.any_eq_true.mp h2.1
      rw [Bool.and_eq_true] at hq2
      obtain ⟨ad, g1, g2, g3, r2, V, g4, g5⟩ := z_fx_in hs.2.2.2.2.2.2.2.2.1 q hq
      rw [z_beq hq2.1] at g1
      rw [z_beq hq2.2] at g4 g5
      rw [hr] at g4
      cases g4
      obtain ⟨x, x1, x2⟩ := hA2 _ _ ha
      rw [g1] at x2
      cases x2
      refine ⟨ad, r, V, x1, g2, g3.1, hr, by rw [hU]; exact g5, fun k hk hz => ?_⟩
      have h5 := List.all_eq_true.mp h2.2 k (List.mem_range.mpr hk)
      rw [hz] at h5
      have h5 : (match z_ffind st a ci k with
        | some w => (match z_get (z_V st) w with
          | some (.inl z) => z_ile 0 z.1 && z_ile z.2 0
          | _ => false)
        | none => false) = true := by simpa using h5
      split at h5
      · rename_i w hw
        split at h5
        · rename_i z hz2
          rw [Bool.and_eq_true] at h5
          obtain ⟨a2, v2, y1, y2, cell, y3, y4, y5⟩ := z_ffind_ok hw hs
          rw [g1] at y1
          cases y1
          obtain ⟨v3, e1, x5, rfl, x6, x7⟩ := z_get_ok hs.2.2.2.2.1 hz2
          rw [y2] at e1
          cases e1
          obtain ⟨cell2, z1, z2, z3, z4⟩ := g5
          rw [y3] at z1
          cases z1
          have := z4 k hk
          rw [y5] at this
          have l1 := z_ile_ok h5.1
          have l2 := z_ile_ok h5.2
          have hx0 : x5 = 0 := z_int0 (by omega)
          rw [hx0] at this
          exact (Option.some.inj this).symm
        · cases h5
      · cases h5
    · cases h2
  · obtain ⟨i, hi⟩ := List.getElem?_of_mem hq
    have hlt : i < (g_loc g).length := (List.getElem?_eq_some_iff.mp hi).1
    have h4 := List.all_eq_true.mp h3 i (List.mem_range.mpr hlt)
    have hgi := List.getElem?_eq_getElem (show i < gs.length by omega)
    rw [hi, hgi] at h4
    obtain ⟨v, y1, y2⟩ := hgs i q _ hi hgi
    refine ⟨v, by rw [hU]; exact y2, ?_⟩
    have h4 : (match z_get (z_V st) gs[i] with
      | some c => z_le c q.2
      | none => false) = true := h4
    split at h4
    · rename_i c1 hc1
      obtain ⟨w, e1, e2⟩ := z_get_ok hs.2.2.2.2.1 hc1
      rw [y1] at e1
      cases e1
      exact z_le_ok h4 e2
    · cases h4
theorem z_foldr {f : zP → Option (List zS)} : ∀ {L : List zP} {r : List zS} {P : zP}, L.foldr (fun P acc => match f P, acc with
      | some a, some b => some (a ++ b)
      | _, _ => none) (some []) = some r → P ∈ L → ∃ a, f P = some a ∧ ∀ x ∈ a, x ∈ r
  | [], _, _, _, h => absurd h List.not_mem_nil
  | q :: L, r, P, h, hP => by
    rw [List.foldr_cons] at h
    split at h
    · rename_i a b ha hb
      cases h
      rcases List.mem_cons.mp hP with rfl | hP
      · exact ⟨a, ha, fun x hx => List.mem_append_left _ hx⟩
      · obtain ⟨a2, h1, h2⟩ := z_foldr hb hP
        exact ⟨a2, h1, fun x hx => List.mem_append_right _ (h2 x hx)⟩
    · cases h
theorem z_blind {KX : State → Heap → Prop} (hXp : z_KXp sz KX) : FrameBlind (z_Pre OB D DA cl FT TY sz KX g T) := by
  intro a U gf mk h
  obtain ⟨vals, h1, h2, h3, h4, h5, h6, h7, h8, h9, h10⟩ := h
  exact ⟨vals, h1, h2, h3, h4, h5, h6, h7, h8, va_K.moved (u := U) (U := U.calling gf mk a) (Vm.Alike.refl U.vm) h9, hXp.2.2 U (U.calling gf mk a) _ rfl h10⟩
theorem z_r_inv (hg : z_Good p l e R s m args below meth c Q OB D DA cl TY PHI sz raw pu T0 H0 env0 nL good) (hx : p.tables.exec = Jvm.exec) (hb : c.code = cc) (hml : c.maxLocals = nL) (hD : z_Dy s m args Ts own D cl DA (z_tys DA)) (hsz : sz ≤ H0.size) (hXp : z_KXp sz (KXf OB sz)) (hX : KXf OB sz s H0)
    {kind cix : Nat} (hok : z_OK TBL cl FT TY PHI KXf y bytes maxL ret g) (hlk : z_lk Ts own kind i y bytes maxL ret np) (hgd : ∀ w ∈ TBL, w ∈ Ts ∧ z_gw w = true) (hci : kind = 0 → ∃ r, cl[cix]? = some r ∧ r.1 = y.cls)
    (hd : decode cc pc = .ok (z_ins kind i, 3)) {L : List zS} (h : z_inv TY PHI cl FT R pu kind cix maxL np g st = some L) (hall : ∀ st' ∈ L, good (pc + 3) st') : good pc st := by
  refine (hg _ _).mpr fun T H locs env ls stk hs => ?_
  unfold z_inv at h
  obtain ⟨hcode, hini, hmh, hnp, hkind⟩ := hlk
  obtain ⟨hts, hown, hK, htys⟩ := hD
  have hmem := hs.2.2.2.2.2.2.2.2.2
  have hH : sz ≤ H.size := Nat.le_trans hsz hmem.2.2.2.2.1
  have hXH : KXf OB sz s H := hXp.2.1 s H0 H hX hmem.2.2.2.2.1 hmem.2.2.2.2.2.1
  have hnp2 : ∀ sig, parseMethodDescriptor y.desc = some sig → np = sig.parameters.length := by
    intro sig hsig
    rw [hsig] at hnp
    exact (Option.some.inj hnp).symm
  have hwsG : ∀ w ∈ (Cond.code y bytes maxL ret :: TBL), ∀ (a' : Array Value) (U : State), s.WarmedH U.vm → w.before a' U = true := by
    refine z_pay hts (fun w hw => ?_)
    rcases List.mem_cons.mp hw with rfl | hw
    · exact ⟨hcode, rfl⟩
    · exact ⟨(hgd w hw).1, (hgd w hw).2⟩
  -- the common part
  have common : ∀ (hc : z_cal TY PHI cl FT R pu maxL g st = some L), ∃ (va vr : List Value), stk = va.reverse ++ vr ∧ va.length = (g_prm g).length ∧ (∀ U : State, U.heap = H → s.WarmedH U.vm → z_Pre OB D DA cl FT TY sz (KXf OB sz) g T va.toArray U) ∧
      (vr.map fun v => v.category).sum ≤ 8 ∧ (g_rm g).1 + 1 ≤ R.frames ∧ 8 + (maxL + 11) + (g_rm g).2 ≤ R.locals ∧ (z_C st).1 + (g_mk g).1 ≤ R.cells ∧ (z_C st).2 + (g_mk g).2 ≤ R.slots ∧
      ((g_raw g).isSome = true → ∃ b : Nat, va[0]? = some (.ref b)) ∧ (∀ (a n : Nat), (g_prm g).length = n + 1 → (z_S st)[n]? = some a → ∃ v, va[0]? = some v ∧ env[a]? = some v) ∧
      ∀ (v : Option Value) (s1 t : State) (H1 : Heap) (locs1 : List Loc), s1.heap = H → t.heap = H1 → z_Post OB D DA cl TY PHI sz g T va.toArray s1 (.returned v) t → va_S (fun q => sz ≤ q) H0 H1 locs1 → W p l e R s m args below meth c H1 locs1 ((z_C st).1 + (g_mk g).1) ((z_C st).2 + (g_mk g).2) Q (F0 m (pc + 3) ls (v.toList ++ vr)) := by
    intro hc
    unfold z_cal at hc
    split at hc
    · rename_i As rs hpop
      obtain ⟨va, vr, rfl, w1, w2, w3, w4⟩ := z_popn_ok _ hpop hs.2.2.2.1
      split at hc
      · rename_i st1 gs hgl
        have hs0 := z_sat_stS hs w3
        obtain ⟨x, g1, ⟨x1, x2, x3, x4, x5, x6⟩, g3, g4⟩ := z_gls_ok hgl hs0
        split at hc
        · rename_i n hn
          cases hcc : (Nat.ble n 8 && z_pck FT cl g As gs st1 && Nat.ble ((z_C st1).1 + (g_mk g).1) R.cells && Nat.ble ((z_C st1).2 + (g_mk g).2) R.slots && Nat.ble ((g_rm g).1 + 1) R.frames && Nat.ble (8 + (maxL + 11) + (g_rm g).2) R.locals && (Nat.beq (g_ph g) 0 || (Nat.beq (z_ph st1) 0 || (Nat.blt (z_ph st1) 1000 && Nat.blt (g_ph g) 1000))) && (g_pur g || !pu)) with
          | false => rw [hcc] at hc; cases hc
          | true =>
            rw [hcc] at hc
            simp only [Bool.and_eq_true] at hcc
            obtain ⟨⟨⟨⟨⟨⟨⟨c1, c2⟩, c3⟩, c4⟩, c5⟩, c6⟩, c7⟩, c8⟩ := hcc
            have hcat := z_csum_ok hn g1 (z_stk_app w3)
            have hA2 : ∀ (j a : Nat), As[j]? = some a → ∃ x', va[j]? = some x' ∧ (env ++ x)[a]? = some x' := fun j a hj => by
              obtain ⟨v, e1, e2⟩ := w4 j a hj
              exact ⟨v, e1, z_app e2⟩
            have hgs : ∀ (i : Nat) (q : zLoc × zV) (w : Nat), (g_loc g)[i]? = some q → gs[i]? = some w → ∃ v : Value, (env ++ x)[w]? = some v ∧ z_lv D cl H (va[q.1.1]?) q.1 v := by
              intro i q w hi hw
              obtain ⟨v, d, m1, m2, m3⟩ := g4 i q w hi hw
              obtain ⟨v2, n1, n2⟩ := hA2 _ _ m2
              rw [n2, ← n1] at m3
              exact ⟨v, m1, m3⟩
            have hCst : z_C st1 = z_C st := x4
            have hlen : va.length = (g_prm g).length := w1
            refine ⟨va, vr, rfl, hlen, z_pre_ok (w2.trans w1.symm) hlen hA2 g3 hgs g1 c2 hK hXH hXp hH, by rw [hcat]; exact Nat.le_of_ble_eq_true c1, Nat.le_of_ble_eq_true c5, Nat.le_of_ble_eq_true c6, by rw [← hCst]; exact Nat.le_of_ble_eq_true c3, by rw [← hCst]; exact Nat.le_of_ble_eq_true c4, fun hr => ?_, fun a n hpn ha => ?_, fun v s1 t H1 locs1 y1 y2 y3 y4 => ?_⟩
            · cases hrr : g_raw g with
              | none => rw [hrr] at hr; cases hr
              | some ci =>
                obtain ⟨vals, z1, _, _, z4, _⟩ := z_pre_ok (KX := KXf OB sz) (w2.trans w1.symm) hlen hA2 g3 hgs g1 c2 hK hXH hXp hH { s with heap := H } rfl (State.WarmedH.refl s)
                have : va = vals := by have := congrArg Array.toList z1; simpa using this
                subst this
                obtain ⟨a, r, V, z5, _⟩ := z4 ci hrr
                exact ⟨a, z5⟩
            · obtain ⟨h5, h6⟩ := z_cond hpop
              cases h6
              have hle := Nat.le_of_ble_eq_true h5
              have h0 : ((List.take (g_prm g).length (z_S st)).reverse)[0]? = some a := by
                rw [hpn]
                rw [hpn] at hle
                rw [List.getElem?_reverse (by simp; omega)]
                have : (List.take (n + 1) (z_S st)).length - 1 - 0 = n := by simp; omega
                rw [this, List.getElem?_take_of_lt (by omega)]
                exact ha
              exact w4 0 a h0
            · have hph : g_ph g = 0 ∨ (z_ph st1 = 0 ∨ (Nat.blt (z_ph st1) 1000 = true ∧ Nat.blt (g_ph g) 1000 = true)) := by
                rw [Bool.or_eq_true, Bool.or_eq_true, Bool.and_eq_true] at c7
                exact c7.imp z_beq (fun h => h.imp z_beq id)
              have hpu : g_pur g = true ∨ pu = false := by
                rw [Bool.or_eq_true] at c8
                exact c8.imp id (fun h => by simpa using h)
              have hraw : ∀ ci, g_raw g = some ci → ∃ a, As[0]? = some a ∧ z_isx st1 a = true := by
                intro ci hci
                unfold z_pck at c2
                simp only [Bool.and_eq_true] at c2
                have c2 := c2.1.2
                rw [hci] at c2
                have c2 : (match As[0]?, cl[ci]? with
                  | some a, some r => (z_X st1).any (fun p => Nat.beq p.1 a && Nat.beq p.2 ci) && (List.range r.2.2).all (fun k => !(z_zf (FT ci k)) || (match z_ffind st1 a ci k with
                    | some w => (match z_get (z_V st1) w with
                      | some (.inl z) => z_ile 0 z.1 && z_ile z.2 0
                      | _ => false)
                    | none => false))
                  | _, _ => false) = true := c2
                split at c2
                · rename_i a r ha hr
                  rw [Bool.and_eq_true] at c2
                  obtain ⟨q, hq, hq2⟩ := List.any_eq_true.mp c2.1
                  rw [Bool.and_eq_true] at hq2
                  exact ⟨a, ha, List.any_eq_true.mpr ⟨q, hq, hq2.1⟩⟩
                · cases c2
              obtain ⟨T', P, z1, z2, z3, z4, z5⟩ := z_bas_ok g1 (w2.trans w1.symm) hA2 hraw hph hpu y1 y2 y4 y3
              obtain ⟨L1, hL1, hL2⟩ := z_foldr hc z2
              obtain ⟨st', env', u1, u2, u3⟩ := z_cas_ok (w2.trans w1.symm) hA2 g3 hgs z1 z3 hL1
              have kk := (hg _ _).mp (hall st' (hL2 st' u1)) T' H1 locs1 env' ls _ u3
              rw [u2, hCst] at kk
              exact kk
        · cases hc
      · cases hc
    · cases hc
  match kind, hkind, hd, hci, h with
  | 0, hkind, hd, hci, h =>
    obtain ⟨k1, k2, k3⟩ := hkind
    cases hcond : (Nat.beq (g_prm g).length (np + 1) && (g_raw g).isNone && (match (z_S st)[np]? with
      | some a => z_rcv TY st cix a
      | none => false)) with
    | false => simp only [hcond] at h; cases h
    | true =>
      simp only [hcond] at h
      obtain ⟨va, vr, rfl, w1, w2, w3, w4, w5, w6, w7, w8, w9, w10⟩ := common h
      simp only [Bool.and_eq_true] at hcond
      obtain ⟨⟨d1, d2⟩, d3⟩ := hcond
      have hpl := z_beq d1
      cases hsn : (z_S st)[np]? with
      | none => rw [hsn] at d3; cases d3
      | some a =>
        rw [hsn] at d3
        have d3 : z_rcv TY st cix a = true := d3
        unfold z_rcv at d3
        split at d3
        · rename_i t ht
          split at d3
          · rename_i o hto
            obtain ⟨ci, fl⟩ := o
            have hcc : ci = cix := z_beq d3
            subst hcc
            obtain ⟨b, r, V, y1, y2, y3, y4, ⟨cell, y5, y6, y7, y8⟩, y9⟩ := z_obj hs ht hto
            obtain ⟨v0, e1, e2⟩ := w9 a np hpl hsn
            rw [y1] at e2
            cases e2
            obtain ⟨r2, hr2, hr3⟩ := hci rfl
            rw [y3] at hr2
            cases hr2
            cases va with
            | nil => simp at e1
            | cons v0 As2 =>
              have : v0 = .ref b := by simpa using e1
              subst this
              have hAl : As2.length = np := by
                have : (Value.ref b :: As2).length = (g_prm g).length := w1
                rw [hpl] at this
                simpa using this
              have hstk : (Value.ref b :: As2).reverse ++ vr = As2.reverse ++ .ref b :: vr := by simp
              rw [hstk]
              refine z_after (va_runV (b := b) (As := As2) (rest := vr) (C := y.cls) (n := np) ⟨hx, hb, hml, hown, hts⟩ (hok l OB D DA sz T) ⟨⟨rfl, rfl, w4, w5, hwsG, List.mem_cons_self, hts _ hcode, hts _ hini, hmh, hnp2, hts _ k1⟩, hts _ k2, hts _ k3⟩ ⟨z_blind hXp, ⟨cell, y5, by rw [y7]; rfl, ?_⟩, w2⟩ rfl hAl ?_ rfl (lv_room w3) hd ⟨w6, w7⟩) hmem.2.2.2.2 w10
              · rw [← hr3, y6]; exact (hK.1 _ _ y3).2.1
              · obtain ⟨lv, z1, _⟩ := hs.2.2.1; exact z1.1
          · cases d3
        · cases d3
  | 1, hkind, hd, hci, h =>
    obtain ⟨k1, k2⟩ := hkind
    cases hcond : (Nat.beq (g_prm g).length np && (g_raw g).isNone) with
    | false => simp only [hcond] at h; cases h
    | true =>
      simp only [hcond] at h
      obtain ⟨va, vr, rfl, w1, w2, w3, w4, w5, w6, w7, w8, w9, w10⟩ := common h
      simp only [Bool.and_eq_true] at hcond
      have hpl := z_beq hcond.1
      refine z_after (va_runS (As := va) (rest := vr) (n := np) ⟨hx, hb, hml, hown, hts⟩ (hok l OB D DA sz T) ⟨⟨rfl, rfl, w4, w5, hwsG, List.mem_cons_self, hts _ hcode, hts _ hini, hmh, hnp2, hts _ k1⟩, hts _ k2⟩ ⟨z_blind hXp, w2⟩ rfl (w1.trans hpl) ?_ rfl (lv_room w3) hd ⟨w6, w7⟩) hmem.2.2.2.2 w10
      obtain ⟨lv, z1, _⟩ := hs.2.2.1
      exact z1.1
  | 2, hkind, hd, hci, h =>
    obtain ⟨k1, k2, k3, rfl⟩ := hkind
    cases hcond : (Nat.beq (g_prm g).length (np + 1) && (g_raw g).isSome) with
    | false => simp only [hcond] at h; cases h
    | true =>
      simp only [hcond] at h
      obtain ⟨va, vr, rfl, w1, w2, w3, w4, w5, w6, w7, w8, w9, w10⟩ := common h
      simp only [Bool.and_eq_true] at hcond
      have hpl := z_beq hcond.1
      obtain ⟨b, hb0⟩ := w8 hcond.2
      cases va with
      | nil => simp at hb0
      | cons v0 As2 =>
        have : v0 = .ref b := by simpa using hb0
        subst this
        have hAl : As2.length = np := by
          have : (Value.ref b :: As2).length = (g_prm g).length := w1
          rw [hpl] at this
          simpa using this
        have hstk : (Value.ref b :: As2).reverse ++ vr = As2.reverse ++ .ref b :: vr := by simp
        rw [hstk]
        refine z_after (va_runI (b := b) (As := As2) (rest := vr) (n := np) ⟨hx, hb, hml, hown, hts⟩ (hok l OB D DA sz T) ⟨⟨rfl, rfl, w4, w5, hwsG, List.mem_cons_self, hts _ hcode, hts _ hini, hmh, hnp2, hts _ k1⟩, k3, hts _ k2⟩ ⟨z_blind hXp, w2⟩ rfl hAl ?_ rfl (lv_room w3) hd ⟨w6, w7⟩) hmem.2.2.2.2 w10
        obtain ⟨lv, z1, _⟩ := hs.2.2.1
        exact z1.1
  | 3, hkind, hd, hci, h =>
    obtain ⟨⟨host, k1⟩, k2, k3, rfl⟩ := hkind
    cases hcond : (Nat.beq (g_prm g).length (np + 1) && (g_raw g).isSome) with
    | false => simp only [hcond] at h; cases h
    | true =>
      simp only [hcond] at h
      obtain ⟨va, vr, rfl, w1, w2, w3, w4, w5, w6, w7, w8, w9, w10⟩ := common h
      simp only [Bool.and_eq_true] at hcond
      have hpl := z_beq hcond.1
      obtain ⟨b, hb0⟩ := w8 hcond.2
      cases va with
      | nil => simp at hb0
      | cons v0 As2 =>
        have : v0 = .ref b := by simpa using hb0
        subst this
        have hAl : As2.length = np := by
          have : (Value.ref b :: As2).length = (g_prm g).length := w1
          rw [hpl] at this
          simpa using this
        have hstk : (Value.ref b :: As2).reverse ++ vr = As2.reverse ++ .ref b :: vr := by simp
        rw [hstk]
        refine z_after (va_runIN (b := b) (As := As2) (rest := vr) (n := np) ⟨hx, hb, hml, hown, hts⟩ (hok l OB D DA sz T) ⟨⟨⟨rfl, rfl, w4, w5, hwsG, List.mem_cons_self⟩, hts _ hcode, hts _ hini, hmh, hnp2, hts _ k1⟩, k3, hts _ k2⟩ ⟨z_blind hXp, w2⟩ rfl hAl ?_ rfl (lv_room w3) hd ⟨w6, w7⟩) hmem.2.2.2.2 w10
        obtain ⟨lv, z1, _⟩ := hs.2.2.1
        exact z1.1
  | 4, hkind, hd, hci, h =>
    obtain ⟨⟨host, k1⟩, k2⟩ := hkind
    cases hcond : (Nat.beq (g_prm g).length np && (g_raw g).isNone) with
    | false => simp only [hcond] at h; cases h
    | true =>
      simp only [hcond] at h
      obtain ⟨va, vr, rfl, w1, w2, w3, w4, w5, w6, w7, w8, w9, w10⟩ := common h
      simp only [Bool.and_eq_true] at hcond
      have hpl := z_beq hcond.1
      refine z_after (va_runSN (As := va) (rest := vr) (n := np) ⟨hx, hb, hml, hown, hts⟩ (hok l OB D DA sz T) ⟨⟨⟨rfl, rfl, w4, w5, hwsG, List.mem_cons_self⟩, hts _ hcode, hts _ hini, hmh, hnp2, hts _ k1⟩, hts _ k2, trivial⟩ ⟨z_blind hXp, w2⟩ rfl (w1.trans hpl) ?_ rfl (lv_room w3) hd ⟨w6, w7⟩) hmem.2.2.2.2 w10
      obtain ⟨lv, z1, _⟩ := hs.2.2.1
      exact z1.1
  | k + 5, hkind, hd, hci, h =>
    obtain ⟨⟨host, k1⟩, k2, k3, rfl⟩ := hkind
    cases hcond : (Nat.beq (g_prm g).length (np + 1) && (g_raw g).isSome) with
    | false => simp only [hcond] at h; cases h
    | true =>
      simp only [hcond] at h
      obtain ⟨va, vr, rfl, w1, w2, w3, w4, w5, w6, w7, w8, w9, w10⟩ := common h
      simp only [Bool.and_eq_true] at hcond
      have hpl := z_beq hcond.1
      obtain ⟨b, hb0⟩ := w8 hcond.2
      cases va with
      | nil => simp at hb0
      | cons v0 As2 =>
        have : v0 = .ref b := by simpa using hb0
        subst this
        have hAl : As2.length = np := by
          have : (Value.ref b :: As2).length = (g_prm g).length := w1
          rw [hpl] at this
          simpa using this
        have hstk : (Value.ref b :: As2).reverse ++ vr = As2.reverse ++ .ref b :: vr := by simp
        rw [hstk]
        refine z_after (va_runIN (b := b) (As := As2) (rest := vr) (n := np) ⟨hx, hb, hml, hown, hts⟩ (hok l OB D DA sz T) ⟨⟨⟨rfl, rfl, w4, w5, hwsG, List.mem_cons_self⟩, hts _ hcode, hts _ hini, hmh, hnp2, hts _ k1⟩, k3, hts _ k2⟩ ⟨z_blind hXp, w2⟩ rfl hAl ?_ rfl (lv_room w3) hd ⟨w6, w7⟩) hmem.2.2.2.2 w10
        obtain ⟨lv, z1, _⟩ := hs.2.2.1
        exact z1.1
end ZCALLS4
end
section
/-! One step. -/
/-- a method: name, code, locals, answer, parameters (without this), the place of its class -/
abbrev zM : Type := MethodName × ByteArray × Nat × Option FieldType × Nat × Nat
/-- what a method's check is given: fields, classes, links (index, kind, method), constants, calls (place, contract), arrays (place, type), acts ahead of a place -/
abbrev zK : Type := List (Nat × Nat × Nat) × List (Nat × Nat) × List (Nat × Nat × Nat) × List (Nat × Int32) × List (Nat × Nat) × List (Nat × Nat) × List (Nat × Nat × Nat × Int) × Option Nat
abbrev k_FL (k : zK) := k.1
abbrev k_CL (k : zK) := k.2.1
abbrev k_LK (k : zK) := k.2.2.1
abbrev k_CT (k : zK) := k.2.2.2.1
abbrev k_CA (k : zK) := k.2.2.2.2.1
abbrev k_NA (k : zK) := k.2.2.2.2.2.1
abbrev k_AC (k : zK) := k.2.2.2.2.2.2.1
abbrev k_IN (k : zK) := k.2.2.2.2.2.2.2
def z_one (len k pc : Nat) (o : Option zS) : Option (List (Nat × zS)) := cond (Nat.beq len k) (o.map (fun s => [(pc + k, s)])) none
def z_all (len k pc : Nat) (o : Option (List zS)) : Option (List (Nat × zS)) := cond (Nat.beq len k) (o.map (fun L => L.map (fun s => (pc + k, s)))) none
def z_calls (TY : List zTy) (PHI : List (List Nat)) (cl : List vw_C) (FT : Nat → Nat → FieldType) (MT : List zM) (SG : List (Nat × zSig)) (R : Room) (pu : Bool) (K : zK) (kinds : Nat → Bool) (pc i : Nat) (st : zS) : Option (List zS) := match (k_LK K).find? (fun q => Nat.beq q.1 i && kinds q.2.1) with
  | some q => (k_CA K).findSome? (fun a => cond (Nat.beq a.1 pc) (match SG[a.2]? with
    | some g => cond (Nat.beq g.1 q.2.2) (match MT[g.1]? with
      | some m => z_inv TY PHI cl FT R pu q.2.1 m.2.2.2.2.2 m.2.2.1 m.2.2.2.2.1 g.2 st
      | none => none) none
    | none => none) none)
  | none => none
/-- the making of an Object -/
def z_obi (R : Room) (K : zK) (i : Nat) (st : zS) : Option zS := match z_S st, (k_LK K).find? (fun q => Nat.beq q.1 i && Nat.beq q.2.1 9) with
  | d :: S, some _ => cond (z_isr st d && Nat.ble 1 R.frames) (match z_csum st S with
    | some n => cond (Nat.ble (n + 12) R.locals) (some (z_stS st S)) none
    | none => none) none
  | _, _ => none
def z_step (TY : List zTy) (PHI : List (List Nat)) (cl : List vw_C) (FT : Nat → Nat → FieldType) (MT : List zM) (SG : List (Nat × zSig)) (RO : List Nat) (R : Room) (pu : Bool) (nL : Nat) (K : zK) (pc : Nat) (ins : Instr) (len : Nat) (st : zS) : Option (List (Nat × zS)) := match ins with
  | .iconst n => z_one len 1 pc (z_iconst st n)
  | .bipush n => z_one len 2 pc (z_bip st n)
  | .sipush n => z_one len 3 pc (z_sip st n)
  | .ldc i => z_one len 2 pc (match (k_CT K).find? (fun q => Nat.beq q.1 i) with
    | some q => z_iconst st q.2.toInt
    | none => none)
  | .ldc_w i => z_one len 3 pc (match (k_CT K).find? (fun q => Nat.beq q.1 i) with
    | some q => z_iconst st q.2.toInt
    | none => none)
  | .iload i => z_one len 2 pc (z_iload st i)
  | .iload_n i => z_one len 1 pc (z_iload st i.val)
  | .aload i => z_one len 2 pc (z_aload st i)
  | .aload_n i => z_one len 1 pc (z_aload st i.val)
  | .istore i => z_one len 2 pc (z_istore nL st i)
  | .istore_n i => z_one len 1 pc (z_istore nL st i.val)
  | .astore i => z_one len 2 pc (z_astore nL st i)
  | .astore_n i => z_one len 1 pc (z_astore nL st i.val)
  | .iinc i n => z_one len 3 pc (z_iinc nL st i n)
  | .dup => z_one len 1 pc (z_dup st)
  | .dup_x1 => z_one len 1 pc (z_dupx1 st)
  | .dup2 => z_one len 1 pc (z_dup2 st)
  | .pop => z_one len 1 pc (z_pop st)
  | .iadd => z_one len 1 pc (z_iadd st)
  | .isub => z_one len 1 pc (z_isub st)
  | .imul => z_one len 1 pc (z_bin z_mul st)
  | .idiv => z_one len 1 pc (z_bin0 z_div st)
  | .irem => z_one len 1 pc (z_bin0 z_rem st)
  | .iand => z_one len 1 pc (z_bin z_and st)
  | .ior => z_one len 1 pc (z_bin z_or st)
  | .ixor => z_one len 1 pc (z_bin z_xor st)
  | .ishl => z_one len 1 pc (z_bin z_shl st)
  | .ishr => z_one len 1 pc (z_bin z_shr st)
  | .iushr => z_one len 1 pc (z_bin z_ushr st)
  | .ineg => z_one len 1 pc (z_un z_neg st)
  | .i2b => z_one len 1 pc (z_un z_i2b st)
  | .i2c => z_one len 1 pc (z_un z_i2c st)
  | .if_icmp k off => cond (Nat.beq len 3) (z_icmp st pc k off) none
  | .ifCond k off => cond (Nat.beq len 3) (z_icnd st pc k off) none
  | .goto off => cond (Nat.beq len 3) ((z_to pc off).map (fun t => [(t, st)])) none
  | .tableswitch d lo hi offs => z_tsw st pc d lo hi offs.toList
  | .lookupswitch d ps => z_lsw st pc d ps.toList
  | .getfield i => z_one len 3 pc (z_getf TY (k_FL K) st i)
  | .putfield i => cond pu none (z_one len 3 pc (z_putf TY cl FT (k_IN K) (k_FL K) st i))
  | .iaload => z_one len 1 pc (z_ald TY 0 st)
  | .baload => z_one len 1 pc (z_ald TY 1 st)
  | .laload => z_one len 1 pc (z_ald TY 2 st)
  | .iastore => cond pu none (z_one len 1 pc (z_ast TY RO 0 st))
  | .bastore => cond pu none (z_one len 1 pc (z_ast TY RO 1 st))
  | .lastore => cond pu none (z_one len 1 pc (z_ast TY RO 2 st))
  | .arraylength => z_one len 1 pc (z_alen TY st)
  | .newarray a => cond pu none (z_one len 2 pc (match z_at a, (k_NA K).find? (fun q => Nat.beq q.1 pc) with
    | some ek, some q => z_nwa TY R.cells R.slots q.2 ek st
    | _, _ => none))
  | .new i => cond pu none (z_one len 3 pc (z_new (k_CL K) cl FT R.cells R.slots st i))
  | .lconst _ => z_one len 1 pc (z_lc0 st)
  | .lshl => z_one len 1 pc (z_lsh st)
  | .lor => z_one len 1 pc (z_l2 (.inr (.inr 0)) st)
  | .lcmp => z_one len 1 pc (z_l2 (.inl z_full) st)
  | .invokevirtual i => z_all len 3 pc (z_calls TY PHI cl FT MT SG R pu K (fun k => Nat.beq k 0) pc i st)
  | .invokestatic i => cond ((k_LK K).any (fun q => Nat.beq q.1 i && Nat.beq q.2.1 8)) (cond pu none (z_one len 3 pc (z_acp TY RO R st))) (z_all len 3 pc (z_calls TY PHI cl FT MT SG R pu K (fun k => Nat.beq k 1 || Nat.beq k 4) pc i st))
  | .invokespecial i => (match z_obi R K i st with
    | some s => z_one len 3 pc (some s)
    | none => z_all len 3 pc (z_calls TY PHI cl FT MT SG R pu K (fun k => Nat.beq k 2 || Nat.beq k 3) pc i st))
  | _ => none
/-- what the tables say of a method's own places -/
def z_KS (Ts TBL : List Cond) (cl : List vw_C) (FT : Nat → Nat → FieldType) (own : String) (MT : List zM) (K : zK) : Prop :=
  z_St Ts cl FT own (k_FL K) ∧ (∀ q ∈ k_CL K, ∃ r, cl[q.2]? = some r ∧ Cond.classLink own q.1 r.1 ∈ Ts ∧ Cond.instantiable r.1 r.2.2 ∈ Ts ∧ Cond.initialized r.1 ∈ Ts) ∧
  (∀ q ∈ k_LK K, (q.2.1 = 9 → Cond.methodLink own q.1 Lib.objectInit ∈ Ts ∧ Cond.instanceMethod Lib.objectInit ∈ Ts ∧ Cond.code Lib.objectInit ⟨#[0xb1]⟩ 1 none ∈ Ts) ∧ (q.2.1 = 8 → Cond.methodLink own q.1 arraycopyName ∈ Ts ∧ Cond.native arraycopyName ∈ Ts ∧ Cond.static arraycopyName ∈ Ts ∧ Cond.initialized "java/lang/System" ∈ Ts) ∧ (q.2.1 ≤ 4 → ∃ mm, MT[q.2.2]? = some mm ∧ z_lk Ts own q.2.1 q.1 mm.1 mm.2.1 mm.2.2.1 mm.2.2.2.1 mm.2.2.2.2.1 ∧ (q.2.1 = 0 → ∃ r, cl[mm.2.2.2.2.2]? = some r ∧ r.1 = mm.1.cls))) ∧
  (∀ q ∈ k_CT K, Cond.constant own q.1 q.2 ∈ Ts) ∧ (∀ k, k < 3 → Cond.arrayClass (z_ek k) ∈ Ts) ∧ (∀ w ∈ TBL, w ∈ Ts ∧ z_gw w = true) ∧ (∀ j r, k_IN K = some j → cl[j]? = some r → r.1 = own)
section ZSTEP
variable {p : Program} {l : Launch} {e : Env} {R : Room} {s : State} {m : MethodId} {args : Array Value} {below : List Frame} {meth : Method} {c : Code} {Q : State → Prop} {cc : ByteArray} {pc : Nat}
variable {OB : Nat → Nat} {D : va_G} {DA : Nat → ClassId} {cl : List vw_C} {FT : Nat → Nat → FieldType} {TY : List zTy} {PHI : List (List Nat)} {sz : Nat} {raw : Option Nat} {pu : Bool} {T0 : zTp} {H0 : Heap} {env0 : List Value} {nL : Nat} {st st' : zS} {KXf : (Nat → Nat) → Nat → State → Heap → Prop} {good : Nat → zS → Prop}
variable {Ts TBL : List Cond} {own : String} {MT : List zM} {SG : List (Nat × zSig)} {RO : List Nat} {K : zK}
theorem z_one_ok {len k : Nat} {o : Option zS} {L : List (Nat × zS)} (h : z_one len k pc o = some L) (hall : ∀ q ∈ L, good q.1 q.2) : len = k ∧ ∃ st', o = some st' ∧ good (pc + k) st' := by
  unfold z_one at h
  cases hb : Nat.beq len k with
  | false => rw [hb] at h; cases h
  | true =>
    rw [hb] at h
    cases o with
    | none => cases h
    | some s =>
      cases h
      exact ⟨z_beq hb, s, rfl, hall _ (List.mem_singleton.mpr rfl)⟩
theorem z_all_ok {len k : Nat} {o : Option (List zS)} {L : List (Nat × zS)} (h : z_all len k pc o = some L) (hall : ∀ q ∈ L, good q.1 q.2) : len = k ∧ ∃ L', o = some L' ∧ ∀ s ∈ L', good (pc + k) s := by
  unfold z_all at h
  cases hb : Nat.beq len k with
  | false => rw [hb] at h; cases h
  | true =>
    rw [hb] at h
    cases o with
    | none => cases h
    | some L' =>
      cases h
      exact ⟨z_beq hb, L', rfl, fun s hs => hall (pc + k, s) (List.mem_map.mpr ⟨s, hs, rfl⟩)⟩
theorem z_calls_ok (hg : z_Good p l e R s m args below meth c Q OB D DA cl TY PHI sz raw pu T0 H0 env0 nL good) (hx : p.tables.exec = Jvm.exec) (hb : c.code = cc) (hml : c.maxLocals = nL) (hD : z_Dy s m args Ts own D cl DA (z_tys DA)) (hsz : sz ≤ H0.size) (hXp : z_KXp sz (KXf OB sz)) (hX : KXf OB sz s H0) (hKS : z_KS Ts TBL cl FT own MT K)
    (hok : ∀ g ∈ (k_CA K).filterMap (fun a => SG[a.2]?), ∀ mm, MT[g.1]? = some mm → z_OK TBL cl FT TY PHI KXf mm.1 mm.2.1 mm.2.2.1 mm.2.2.2.1 g.2) {i : Nat} {kinds : Nat → Bool} {ins : Instr} (hk : ∀ k, kinds k = true → k ≤ 4 ∧ z_ins k i = ins) (hd : decode cc pc = .ok (ins, 3)) {L : List zS} (h : z_calls TY PHI cl FT MT SG R pu K kinds pc i st = some L) (hall : ∀ s ∈ L, good (pc + 3) s) : good pc st := by
  unfold z_calls at h
  split at h
  · rename_i q hq
    have hm := List.mem_of_find?_eq_some hq
    have hp := List.find?_some hq
    rw [Bool.and_eq_true] at hp
    have hi : q.1 = i := z_beq hp.1
    obtain ⟨hk1, hk2⟩ := hk _ hp.2
    obtain ⟨a, ha, ha2⟩ := List.exists_of_findSome?_eq_some h
    cases hb1 : Nat.beq a.1 pc with
    | false => rw [hb1] at ha2; cases ha2
    | true =>
      rw [hb1] at ha2
      have ha2 : (match SG[a.2]? with
        | some g => cond (Nat.beq g.1 q.2.2) (match MT[g.1]? with
          | some m => z_inv TY PHI cl FT R pu q.2.1 m.2.2.2.2.2 m.2.2.1 m.2.2.2.2.1 g.2 st
          | none => none) none
        | none => none) = some L := ha2
      split at ha2
      · rename_i g hg2
        cases hb2 : Nat.beq g.1 q.2.2 with
        | false => rw [hb2] at ha2; cases ha2
        | true =>
          rw [hb2] at ha2
          have ha2 : (match MT[g.1]? with
            | some m => z_inv TY PHI cl FT R pu q.2.1 m.2.2.2.2.2 m.2.2.1 m.2.2.2.2.1 g.2 st
            | none => none) = some L := ha2
          split at ha2
          · rename_i mm hmm
            have hgq := z_beq hb2
            obtain ⟨mm2, k1, k2, k3⟩ := (hKS.2.2.1 q hm).2.2 hk1
            rw [← hgq, hmm] at k1
            cases k1
            rw [hi] at k2
            exact z_r_inv hg hx hb hml hD hsz hXp hX (hok g (List.mem_filterMap.mpr ⟨a, ha, hg2⟩) _ hmm) k2 hKS.2.2.2.2.2.1 k3 (by rw [hk2]; exact hd) ha2 hall
          · cases ha2
      · cases ha2
  · cases h
end ZSTEP
end
section
/-! A step is sound. -/
section ZSTEP2
variable {p : Program} {l : Launch} {e : Env} {R : Room} {s : State} {m : MethodId} {args : Array Value} {below : List Frame} {meth : Method} {c : Code} {Q : State → Prop} {cc : ByteArray} {pc : Nat}
variable {OB : Nat → Nat} {D : va_G} {DA : Nat → ClassId} {cl : List vw_C} {FT : Nat → Nat → FieldType} {TY : List zTy} {PHI : List (List Nat)} {sz : Nat} {raw : Option Nat} {pu : Bool} {T0 : zTp} {H0 : Heap} {env0 : List Value} {nL : Nat} {st st' : zS} {KXf : (Nat → Nat) → Nat → State → Heap → Prop} {good : Nat → zS → Prop}
variable {Ts TBL : List Cond} {own : String} {MT : List zM} {SG : List (Nat × zSig)} {RO : List Nat} {K : zK}
theorem z_r_bin (hg : z_Good p l e R s m args below meth c Q OB D DA cl TY PHI sz raw pu T0 H0 env0 nL good) {f : zR → zR → zR} {op : Int32 → Int32 → Int32} (hf : ∀ a b x y, z_in a x → z_in b y → z_in (f a b) (op x y)) {k1 : Nat}
    (row : ∀ {H : Heap} {locs : List Loc} {cells slots : Nat} {ls : Array Slot} {rest : List Value} {x y : Int32}, W p l e R s m args below meth c H locs cells slots Q (F0 m k1 ls (.int (op x y) :: rest)) → W p l e R s m args below meth c H locs cells slots Q (F0 m pc ls (.int y :: .int x :: rest))) (h : z_bin f st = some st') (k : good k1 st') : good pc st := by
  refine (hg _ _).mpr fun T H locs env ls stk hs => ?_
  obtain ⟨x, y, kk, rfl, h1, h2⟩ := z_bin_ok hf h hs
  have := (hg _ _).mp k T H locs _ ls _ h2
  rw [h1] at this
  exact row this
theorem z_r_bin0 (hg : z_Good p l e R s m args below meth c Q OB D DA cl TY PHI sz raw pu T0 H0 env0 nL good) {f : zR → zR → zR} {op : Int32 → Int32 → Int32} (hf : ∀ a b x y, z_in a x → z_in b y → z_in (f a b) (op x y)) {k1 : Nat}
    (row : ∀ {H : Heap} {locs : List Loc} {cells slots : Nat} {ls : Array Slot} {rest : List Value} {x y : Int32}, ¬ y = 0 → W p l e R s m args below meth c H locs cells slots Q (F0 m k1 ls (.int (op x y) :: rest)) → W p l e R s m args below meth c H locs cells slots Q (F0 m pc ls (.int y :: .int x :: rest))) (h : z_bin0 f st = some st') (k : good k1 st') : good pc st := by
  refine (hg _ _).mpr fun T H locs env ls stk hs => ?_
  obtain ⟨x, y, kk, rfl, h0, h1, h2⟩ := z_bin0_ok hf h hs
  have := (hg _ _).mp k T H locs _ ls _ h2
  rw [h1] at this
  exact row h0 this
theorem z_r_un (hg : z_Good p l e R s m args below meth c Q OB D DA cl TY PHI sz raw pu T0 H0 env0 nL good) {f : zR → zR} {op : Int32 → Int32} (hf : ∀ a x, z_in a x → z_in (f a) (op x)) {k1 : Nat}
    (row : ∀ {H : Heap} {locs : List Loc} {cells slots : Nat} {ls : Array Slot} {rest : List Value} {x : Int32}, W p l e R s m args below meth c H locs cells slots Q (F0 m k1 ls (.int (op x) :: rest)) → W p l e R s m args below meth c H locs cells slots Q (F0 m pc ls (.int x :: rest))) (h : z_un f st = some st') (k : good k1 st') : good pc st := by
  refine (hg _ _).mpr fun T H locs env ls stk hs => ?_
  obtain ⟨x, kk, rfl, h1, h2⟩ := z_un_ok hf h hs
  have := (hg _ _).mp k T H locs _ ls _ h2
  rw [h1] at this
  exact row this
theorem z_r_obi (hg : z_Good p l e R s m args below meth c Q OB D DA cl TY PHI sz raw pu T0 H0 env0 nL good) (hx : p.tables.exec = Jvm.exec) (hb : c.code = cc) (hml : c.maxLocals = nL) (hts : ∀ w ∈ Ts, w.before args s = true) (hown : s.vm.findClass own = some m.cls) (hKS : z_KS Ts TBL cl FT own MT K) {i : Nat} (hd : decode cc pc = .ok (.invokespecial i, 3)) (h : z_obi R K i st = some st') (k : good (pc + 3) st') : good pc st := by
  refine (hg _ _).mpr fun T H locs env ls stk hs => ?_
  unfold z_obi at h
  split at h
  · rename_i d S q hS hq
    have hm := List.mem_of_find?_eq_some hq
    have hp := List.find?_some hq
    rw [Bool.and_eq_true] at hp
    have hi : q.1 = i := z_beq hp.1
    obtain ⟨w1, w2, w3⟩ := (hKS.2.2.1 q hm).1 (z_beq hp.2)
    rw [hi] at w1
    cases hc : (z_isr st d && Nat.ble 1 R.frames) with
    | false => rw [hc] at h; cases h
    | true =>
      rw [hc] at h
      rw [Bool.and_eq_true] at hc
      have h : (match z_csum st S with
        | some n => cond (Nat.ble (n + 12) R.locals) (some (z_stS st S)) none
        | none => none) = some st' := h
      split at h
      · rename_i n hn
        obtain ⟨h1, rfl⟩ := z_cond h
        obtain ⟨v, kk, rfl, e1, hk⟩ := z_stk_cons hS hs.2.2.2.1
        obtain ⟨a, e2⟩ := z_isr_ok hc.1 hs
        rw [e1] at e2
        cases e2
        have hcat := z_csum_ok hn hs hk
        have hle := Nat.le_of_ble_eq_true h1
        have hlsz : ls.size = nL := by obtain ⟨lv, z1, _⟩ := hs.2.2.1; exact z1.1
        refine W.objInit hx hb hown (hts _ w1) (hts _ w2) (hts _ w3) rfl (by show ls.size = c.maxLocals; rw [hlsz, hml]) rfl hd (Nat.le_of_ble_eq_true hc.2) (by show 2 * 0 + _ + 12 ≤ _; rw [hcat]; omega) ?_
        exact (hg _ _).mp k T H locs env ls _ (z_sat_stS hs hk)
      · cases h
  · cases h
set_option maxHeartbeats 4000000 in
theorem z_step_ok (hg : z_Good p l e R s m args below meth c Q OB D DA cl TY PHI sz raw pu T0 H0 env0 nL good) (hx : p.tables.exec = Jvm.exec) (hb : c.code = cc) (hml : c.maxLocals = nL) (hD : z_Dy s m args Ts own D cl DA (z_tys DA)) (hsz : sz ≤ H0.size) (hXp : z_KXp sz (KXf OB sz)) (hX : KXf OB sz s H0) (hKS : z_KS Ts TBL cl FT own MT K) (hin : ∀ j, k_IN K = some j → meth.name = "<init>")
    (hok : ∀ g ∈ (k_CA K).filterMap (fun a => SG[a.2]?), ∀ mm, MT[g.1]? = some mm → z_OK TBL cl FT TY PHI KXf mm.1 mm.2.1 mm.2.2.1 mm.2.2.2.1 g.2) {ins : Instr} {len : Nat} (hd : decode cc pc = .ok (ins, len)) {L : List (Nat × zS)} (h : z_step TY PHI cl FT MT SG RO R pu nL K pc ins len st = some L) (hall : ∀ q ∈ L, good q.1 q.2) : good pc st := by
  have hpu : ∀ {o : Option (List (Nat × zS))}, cond pu none o = some L → pu = false ∧ o = some L := by
    intro o ho
    cases hq : pu with
    | true => rw [hq] at ho; cases ho
    | false => rw [hq] at ho; exact ⟨rfl, ho⟩
  have hini : ∀ j r, k_IN K = some j → cl[j]? = some r → meth.name = "<init>" ∧ r.1 = own := fun j r h1 h2 => ⟨hin j h1, hKS.2.2.2.2.2.2 j r h1 h2⟩
  unfold z_step at h
  split at h
  · obtain ⟨rfl, s1, h1, k⟩ := z_one_ok h hall; exact z_r_iconst hg hx hb hd h1 k
  · obtain ⟨rfl, s1, h1, k⟩ := z_one_ok h hall; exact z_r_bip hg hx hb hd h1 k
  · obtain ⟨rfl, s1, h1, k⟩ := z_one_ok h hall; exact z_r_sip hg hx hb hd h1 k
  · obtain ⟨rfl, s1, h1, k⟩ := z_one_ok h hall
    split at h1
    · rename_i q hq
      have hq1 := List.find?_some hq
      have hi := z_beq hq1
      have hc := hD.1 _ (hKS.2.2.2.1 q (List.mem_of_find?_eq_some hq))
      rw [hi] at hc
      exact z_r_ldc hg hx hb hD.2.1 hc hd h1 k
    · cases h1
  · obtain ⟨rfl, s1, h1, k⟩ := z_one_ok h hall
    split at h1
    · rename_i q hq
      have hq1 := List.find?_some hq
      have hi := z_beq hq1
      have hc := hD.1 _ (hKS.2.2.2.1 q (List.mem_of_find?_eq_some hq))
      rw [hi] at hc
      exact z_r_ldcw hg hx hb hD.2.1 hc hd h1 k
    · cases h1
  · obtain ⟨rfl, s1, h1, k⟩ := z_one_ok h hall; exact z_r_iload hg hx hb hd h1 k
  · obtain ⟨rfl, s1, h1, k⟩ := z_one_ok h hall; exact z_r_iload_n hg hx hb hd h1 k
  · obtain ⟨rfl, s1, h1, k⟩ := z_one_ok h hall; exact z_r_aload hg hx hb hd h1 k
  · obtain ⟨rfl, s1, h1, k⟩ := z_one_ok h hall; exact z_r_aload_n hg hx hb hd h1 k
  · obtain ⟨rfl, s1, h1, k⟩ := z_one_ok h hall; exact z_r_istore hg hx hb hd h1 k
  · obtain ⟨rfl, s1, h1, k⟩ := z_one_ok h hall; exact z_r_istore_n hg hx hb hd h1 k
  · obtain ⟨rfl, s1, h1, k⟩ := z_one_ok h hall; exact z_r_astore hg hx hb hd h1 k
  · obtain ⟨rfl, s1, h1, k⟩ := z_one_ok h hall; exact z_r_astore_n hg hx hb hd h1 k
  · obtain ⟨rfl, s1, h1, k⟩ := z_one_ok h hall; exact z_r_iinc hg hx hb hd h1 k
  · obtain ⟨rfl, s1, h1, k⟩ := z_one_ok h hall; exact z_r_dup hg hx hb hd h1 k
  · obtain ⟨rfl, s1, h1, k⟩ := z_one_ok h hall; exact z_r_dupx1 hg hx hb hd h1 k
  · obtain ⟨rfl, s1, h1, k⟩ := z_one_ok h hall; exact z_r_dup2 hg hx hb hd h1 k
  · obtain ⟨rfl, s1, h1, k⟩ := z_one_ok h hall; exact z_r_pop hg hx hb hd h1 k
  · obtain ⟨rfl, s1, h1, k⟩ := z_one_ok h hall
    refine (hg _ _).mpr fun T H locs env ls stk hs => ?_
    obtain ⟨x, y, kk, rfl, g1, g2⟩ := z_iadd_ok h1 hs
    have := (hg _ _).mp k T H locs _ ls _ g2
    rw [g1] at this
    exact lv_iadd hx hb hd this
  · obtain ⟨rfl, s1, h1, k⟩ := z_one_ok h hall
    refine (hg _ _).mpr fun T H locs env ls stk hs => ?_
    obtain ⟨x, y, kk, rfl, g1, g2⟩ := z_isub_ok h1 hs
    have := (hg _ _).mp k T H locs _ ls _ g2
    rw [g1] at this
    exact lv_isub hx hb hd this
  · obtain ⟨rfl, s1, h1, k⟩ := z_one_ok h hall; exact z_r_bin hg (fun a b x y => z_mul_ok) (fun w => lv_imul hx hb hd w) h1 k
  · obtain ⟨rfl, s1, h1, k⟩ := z_one_ok h hall; exact z_r_bin0 hg (fun a b x y => z_div_ok) (fun h0 w => lv_idiv hx hb hd h0 w) h1 k
  · obtain ⟨rfl, s1, h1, k⟩ := z_one_ok h hall; exact z_r_bin0 hg (op := fun x y => x - x / y * y) (fun a b x y => z_rem_ok) (fun h0 w => lv_irem hx hb hd h0 w) h1 k
  · obtain ⟨rfl, s1, h1, k⟩ := z_one_ok h hall; exact z_r_bin hg (fun a b x y => z_and_ok) (fun w => lv_iand hx hb hd w) h1 k
  · obtain ⟨rfl, s1, h1, k⟩ := z_one_ok h hall; exact z_r_bin hg (fun a b x y => z_or_ok) (fun w => lv_ior hx hb hd w) h1 k
  · obtain ⟨rfl, s1, h1, k⟩ := z_one_ok h hall; exact z_r_bin hg (fun a b x y => z_xor_ok) (fun w => lv_ixor hx hb hd w) h1 k
  · obtain ⟨rfl, s1, h1, k⟩ := z_one_ok h hall; exact z_r_bin hg (op := fun x y => x <<< (y &&& 31)) (fun a b x y => z_shl_ok) (fun w => lv_ishl hx hb hd w) h1 k
  · obtain ⟨rfl, s1, h1, k⟩ := z_one_ok h hall; exact z_r_bin hg (op := fun x y => x >>> (y &&& 31)) (fun a b x y => z_shr_ok) (fun w => lv_ishr hx hb hd w) h1 k
  · obtain ⟨rfl, s1, h1, k⟩ := z_one_ok h hall; exact z_r_bin hg (op := fun x y => (x.toUInt32 >>> (y.toUInt32 &&& Int32.toUInt32 31)).toInt32) (fun a b x y => z_ushr_ok) (fun w => lv_iushr hx hb hd rfl w) h1 k
  · obtain ⟨rfl, s1, h1, k⟩ := z_one_ok h hall; exact z_r_un hg (op := fun x => -x) (fun a x => z_neg_ok) (fun w => lv_ineg hx hb hd w) h1 k
  · obtain ⟨rfl, s1, h1, k⟩ := z_one_ok h hall; exact z_r_un hg (op := fun x => x.toInt8.toInt32) (fun a x => z_i2b_ok) (fun w => lv_i2b hx hb hd rfl w) h1 k
  · obtain ⟨rfl, s1, h1, k⟩ := z_one_ok h hall; exact z_r_un hg (op := fun x => (x.toUInt32 % 65536).toInt32) (fun a x => z_i2c_ok) (fun w => lv_i2c hx hb hd rfl w) h1 k
  · cases hl : Nat.beq len 3 with
    | false => rw [hl] at h; cases h
    | true => rw [hl] at h; rw [z_beq hl] at hd; exact z_r_icmp hg hx hb hd h hall
  · cases hl : Nat.beq len 3 with
    | false => rw [hl] at h; cases h
    | true => rw [hl] at h; rw [z_beq hl] at hd; exact z_r_icnd hg hx hb hd h hall
  · cases hl : Nat.beq len 3 with
    | false => rw [hl] at h; cases h
    | true =>
      rw [hl] at h; rw [z_beq hl] at hd
      rename_i off
      cases ht : z_to pc off with
      | none => rw [ht] at h; cases h
      | some t => rw [ht] at h; cases h; exact z_r_goto hg hx hb hd ht (hall _ (List.mem_singleton.mpr rfl))
  · exact z_r_tsw hg hx hb hd h hall
  · exact z_r_lsw hg hx hb hd h hall
  · obtain ⟨rfl, s1, h1, k⟩ := z_one_ok h hall; exact z_r_getf hg hx hb hKS.1 hD hd h1 k
  · obtain ⟨hp0, h⟩ := hpu h
    obtain ⟨rfl, s1, h1, k⟩ := z_one_ok h hall; exact z_r_putf hp0 hg hx hb hKS.1 hD hini hd h1 k
  · obtain ⟨rfl, s1, h1, k⟩ := z_one_ok h hall; exact z_r_iald hg hx hb hD hd h1 k
  · obtain ⟨rfl, s1, h1, k⟩ := z_one_ok h hall; exact z_r_bald hg hx hb hD hd h1 k
  · obtain ⟨rfl, s1, h1, k⟩ := z_one_ok h hall; exact z_r_lald hg hx hb hD hd h1 k
  · obtain ⟨hp0, h⟩ := hpu h
    obtain ⟨rfl, s1, h1, k⟩ := z_one_ok h hall; exact z_r_iast hp0 hg hx hb hD hd h1 k
  · obtain ⟨hp0, h⟩ := hpu h
    obtain ⟨rfl, s1, h1, k⟩ := z_one_ok h hall; exact z_r_bast hp0 hg hx hb hD hd h1 k
  · obtain ⟨hp0, h⟩ := hpu h
    obtain ⟨rfl, s1, h1, k⟩ := z_one_ok h hall; exact z_r_last hp0 hg hx hb hD hd h1 k
  · obtain ⟨rfl, s1, h1, k⟩ := z_one_ok h hall; exact z_r_alen hg hx hb hD hd h1 k
  · obtain ⟨hp0, h⟩ := hpu h
    obtain ⟨rfl, s1, h1, k⟩ := z_one_ok h hall
    split at h1
    · rename_i ek q he hq
      exact z_r_nwa hp0 hg hx hb hD hKS.2.2.2.2.1 hsz he hd h1 k
    · cases h1
  · obtain ⟨hp0, h⟩ := hpu h
    obtain ⟨rfl, s1, h1, k⟩ := z_one_ok h hall; exact z_r_new hp0 hg hx hb hKS.1 hD hKS.2.1 hsz hd h1 k
  · obtain ⟨rfl, s1, h1, k⟩ := z_one_ok h hall; exact z_r_lconst hg hx hb hd h1 k
  · obtain ⟨rfl, s1, h1, k⟩ := z_one_ok h hall; exact z_r_lshl hg hx hb hd h1 k
  · obtain ⟨rfl, s1, h1, k⟩ := z_one_ok h hall; exact z_r_lor hg hx hb hd h1 k
  · obtain ⟨rfl, s1, h1, k⟩ := z_one_ok h hall; exact z_r_lcmp hg hx hb hd h1 k
  · obtain ⟨rfl, L', h1, k⟩ := z_all_ok h hall
    exact z_calls_ok hg hx hb hml hD hsz hXp hX hKS hok (fun k hk => by rw [z_beq hk]; exact ⟨by omega, rfl⟩) hd h1 k
  · rename_i i
    cases hq : (k_LK K).any (fun q => Nat.beq q.1 i && Nat.beq q.2.1 8) with
    | true =>
      rw [hq] at h
      obtain ⟨hp0, h⟩ := hpu h
      obtain ⟨rfl, s1, h1, k⟩ := z_one_ok h hall
      obtain ⟨q, hm, hp⟩ := List.any_eq_true.mp hq
      rw [Bool.and_eq_true] at hp
      have hi : q.1 = i := z_beq hp.1
      obtain ⟨w1, w2, w3, w4⟩ := (hKS.2.2.1 q hm).2.1 (z_beq hp.2)
      rw [hi] at w1
      exact z_r_acp hp0 hg hx hb hml hD w1 w2 w3 w4 hd h1 k
    | false =>
      rw [hq] at h
      obtain ⟨rfl, L', h1, k⟩ := z_all_ok h hall
      refine z_calls_ok hg hx hb hml hD hsz hXp hX hKS hok (fun k hk => ?_) hd h1 k
      rw [Bool.or_eq_true] at hk
      rcases hk with hk | hk <;> rw [z_beq hk] <;> exact ⟨by omega, rfl⟩
  · split at h
    · rename_i s1 h1
      obtain ⟨rfl, s2, h2, k⟩ := z_one_ok h hall
      cases h2
      exact z_r_obi hg hx hb hml hD.1 hD.2.1 hKS hd h1 k
    · obtain ⟨rfl, L', h1, k⟩ := z_all_ok h hall
      refine z_calls_ok hg hx hb hml hD hsz hXp hX hKS hok (fun k hk => ?_) hd h1 k
      rw [Bool.or_eq_true] at hk
      rcases hk with hk | hk <;> rw [z_beq hk] <;> exact ⟨by omega, rfl⟩
  · cases h
end ZSTEP2
end
section
/-! Acts ahead of a place; cut points, with ranks that fall. -/
def z_spl (st : zS) (d : Nat) (t : Int) : Option (List zS) := match z_get (z_V st) d with
  | some (.inl r) => some (cond (z_ile r.1 t) [z_mor st (z_S st) [(d, .inl (r.1, z_min r.2 t))] []] [] ++ cond (z_ile (t + 1) r.2) [z_mor st (z_S st) [(d, .inl (z_max r.1 (t + 1), r.2))] []] [])
  | _ => none
/-- a value is bound by another one's bound -/
def z_tig (st : zS) (d e : Nat) : Option (List zS) := match z_get (z_V st) d, z_get (z_V st) e, z_lbs (z_R st) 6 e d with
  | some (.inl r), some (.inl q), some k => some [z_mor st (z_S st) [(d, .inl (r.1, z_min r.2 (q.2 - k)))] []]
  | _, _, _ => none
def z_act (TY : List zTy) (PHI : List (List Nat)) (cl : List vw_C) (PHS : List Nat) (pu : Bool) (q : Nat × Nat × Int) (st : zS) : Option (List zS) := match q.1 with
  | 0 => cond pu none (match TY[q.2.1]? with
    | some (.inl o) => (match cl[o.1]? with
      | some r => cond (Nat.beq o.2.length r.2.2) ((z_pub TY st 0 q.2.1).map (fun s => [s])) none
      | none => none)
    | _ => none)
  | 1 => cond (pu || !(PHS.any (fun x => Nat.beq x q.2.1))) none (cond (Nat.beq (z_ph st) q.2.1) (some [st]) ((z_rty PHI st q.2.1).map (fun s => [s])))
  | 2 => (match z_loc (z_L st) q.2.1 with
    | some d => z_spl st d q.2.2
    | none => none)
  | 4 => (match z_loc (z_L st) q.2.1, z_loc (z_L st) q.2.2.toNat with
    | some d, some e => z_tig st d e
    | _, _ => none)
  | _ => (match (z_S st)[q.2.1]? with
    | some d => z_spl st d q.2.2
    | none => none)
def z_fmp {α : Type} (f : zS → Option (List α)) : List zS → Option (List α)
  | [] => some []
  | s :: L => match f s, z_fmp f L with
    | some a, some b => some (a ++ b)
    | _, _ => none
def z_acts (TY : List zTy) (PHI : List (List Nat)) (cl : List vw_C) (PHS : List Nat) (pu : Bool) : List (Nat × Nat × Nat × Int) → Nat → zS → Option (List zS)
  | [], _, st => some [st]
  | q :: r, pc, st => cond (Nat.beq q.1 pc) (match z_act TY PHI cl PHS pu q.2 st with
    | some L => z_fmp (z_acts TY PHI cl PHS pu r pc) L
    | none => none) (z_acts TY PHI cl PHS pu r pc st)
/-- a step with its acts; finV, finI: the ends -/
def z_stp (TY : List zTy) (PHI : List (List Nat)) (cl : List vw_C) (FT : Nat → Nat → FieldType) (MT : List zM) (SG : List (Nat × zSig)) (RO PHS : List Nat) (R : Room) (pu : Bool) (nL : Nat) (K : zK) (cc : ByteArray) (finV finI : zS → Bool) (pc : Nat) (st : zS) : Option (List (Nat × zS)) :=
  match z_acts TY PHI cl PHS pu (k_AC K) pc st with
  | some L => (match decode cc pc with
    | .ok (.return_, len) => cond (Nat.beq len 1 && L.all finV) (some []) none
    | .ok (.ireturn, len) => cond (Nat.beq len 1 && L.all finI) (some []) none
    | .ok (ins, len) => z_fmp (z_step TY PHI cl FT MT SG RO R pu nL K pc ins len) L
    | .error _ => none)
  | none => none
def z_run (stp : Nat → zS → Option (List (Nat × zS))) (cut : Nat → zS → Bool) : Nat → Nat → zS → Bool
  | 0, _, _ => false
  | f + 1, pc, st => match stp pc st with
    | some L => L.all (fun q => cut q.1 q.2 || z_run stp cut f q.1 q.2)
    | none => false
abbrev zLo : Type := Nat × Nat × Nat × Nat
abbrev zLin : Type := Int × List (Nat × Int)
abbrev zCu : Type := Nat × zS × List zLo × zLin
def z_sg1 (cur : zS) (acc : List Nat) (q : zLo) : Option Nat := match q.1 with
  | 0 => some q.2.1
  | 1 => z_loc (z_L cur) q.2.1
  | 2 => (z_S cur)[q.2.1]?
  | 3 => (match acc[q.2.1]? with
    | some a => z_ffind cur a q.2.2.1 q.2.2.2
    | none => none)
  | 4 => (match acc[q.2.1]?, acc[q.2.2.1]? with
    | some a, some j => z_efind cur a j
    | _, _ => none)
  | _ => ((z_V cur).find? (fun e => match e.2 with
    | .inl r => z_ile (q.2.1 : Int) r.1 && z_ile r.2 (q.2.1 : Int)
    | _ => false)).map (fun e => e.1)
def z_sgm (cur : zS) : List zLo → List Nat → Option (List Nat)
  | [], acc => some acc
  | q :: r, acc => match z_sg1 cur acc q with
    | some i => z_sgm cur r (acc ++ [i])
    | none => none
def z_seq (sg : List Nat) : List Nat → List Nat → Bool
  | [], [] => true
  | t :: L, i :: M => (match sg[t]? with
    | some j => Nat.beq j i
    | none => false) && z_seq sg L M
  | _, _ => false
/-- a bound of a difference: by steps, or by ranges -/
def z_kr (st : zS) (b a : Nat) (k : Int) : Bool := z_kx (z_R st) b a k || (match z_get (z_V st) b, z_get (z_V st) a with
  | some (.inl r), some (.inl q) => z_ile (q.2 + k) r.1
  | _, _ => false)
def z_sub2 (cur tgt : zS) (sg : List Nat) : Bool :=
  Nat.beq sg.length (z_n tgt) && sg.all (fun i => Nat.blt i (z_n cur)) && (z_L tgt).all (fun q => match z_loc (z_L cur) q.1, sg[q.2]? with
    | some d, some i => Nat.beq d i
    | _, _ => false) && z_seq sg (z_S tgt) (z_S cur) && (z_V tgt).all (fun q => match sg[q.1]? with
    | some i => (match z_get (z_V cur) i with
      | some c => z_le c q.2
      | none => false)
    | none => false) && (z_F tgt).all (fun q => match sg[q.1]?, sg[q.2.2.2]?, cur with
    | some a, some v, cur => (match z_ffind cur a q.2.1 q.2.2.1 with
      | some w => Nat.beq w v && (z_F cur).any (fun f => Nat.beq f.1 a && Nat.beq f.2.1 q.2.1 && Nat.beq f.2.2.1 q.2.2.1 && Nat.beq f.2.2.2 v)
      | none => false)
    | _, _, _ => false) && (z_E tgt).all (fun q => match sg[q.1]?, sg[q.2.1]?, sg[q.2.2]? with
    | some a, some j, some v => z_isi cur j && (match z_efind cur a j with
      | some w => Nat.beq w v
      | none => false)
    | _, _, _ => false) && (z_R tgt).all (fun q => match sg[q.1]?, sg[q.2.1]? with
    | some b, some a => z_isi cur b && z_isi cur a && z_kr cur b a q.2.2
    | _, _ => false) && (z_X tgt).isEmpty && Nat.ble (z_C cur).1 (z_C tgt).1 && Nat.ble (z_C cur).2 (z_C tgt).2 && Nat.beq (z_ph cur) (z_ph tgt)
def z_pick (st : zS) (x : Nat) (a : Int) : List (Nat × Int) → Option (Int × List (Nat × Int))
  | [] => none
  | q :: r => match (cond (z_ile q.2 (-a) && z_ile (-a) q.2 && z_isi st q.1) (cond (z_ile 0 a) (z_lbs (z_R st) 2 x q.1) (z_lbs (z_R st) 2 q.1 x)) none) with
    | some k => some (cond (z_ile 0 a) (a * k) (-a * k), r)
    | none => (match z_pick st x a r with
      | some w => some (w.1, q :: w.2)
      | none => none)
def z_lw (st : zS) : Nat → List (Nat × Int) → Option Int
  | _, [] => some 0
  | 0, _ :: _ => none
  | f + 1, q :: r => match z_get (z_V st) q.1 with
    | some (.inl v) => (match z_pick st q.1 q.2 r with
      | some w => (match z_lw st f w.2 with
        | some b => some (b + w.1)
        | none => none)
      | none => (match z_lw st f r with
        | some b => some (b + cond (z_ile 0 q.2) (q.2 * v.1) (q.2 * v.2))
        | none => none))
    | _ => none
def z_mapt (sg : List Nat) : List (Nat × Int) → Option (List (Nat × Int))
  | [] => some []
  | q :: r => match sg[q.1]?, z_mapt sg r with
    | some i, some L => some ((i, q.2) :: L)
    | _, _ => none
def z_rnk (cur : zS) (sg : List Nat) (src : Option zLin) (tgt : zLin) : Bool := match z_mapt sg tgt.2 with
  | some t => (match z_lw cur 12 t with
      | some b => z_ile 0 (tgt.1 + b)
      | none => false) && (match src with
      | none => true
      | some s => (match z_lw cur 12 (s.2 ++ t.map (fun q => (q.1, -q.2))) with
        | some b => z_ile 1 (s.1 - tgt.1 + b)
        | none => false))
  | none => false
def z_cut (CU : List zCu) (ng : Nat) (src : Option zLin) (pc : Nat) (cur : zS) : Bool := CU.any (fun k => Nat.beq k.1 pc && (match z_sgm cur k.2.2.1 [] with
  | some sg => z_sub2 cur k.2.1 sg && (List.range ng).all (fun i => match sg[i]? with
      | some j => Nat.beq j i
      | none => false) && z_rnk cur sg src k.2.2.2
  | none => false))
/-- the value of a linear form -/
def z_iv (env : List Value) (x : Nat) : Int := match env[x]? with
  | some (.int v) => v.toInt
  | _ => 0
def z_ev (env : List Value) : List (Nat × Int) → Int
  | [] => 0
  | q :: r => q.2 * z_iv env q.1 + z_ev env r
section ZCUTS
variable {OB : Nat → Nat} {D : va_G} {DA : Nat → ClassId} {cl : List vw_C} {FT : Nat → Nat → FieldType} {TY : List zTy} {PHI : List (List Nat)} {sz : Nat} {raw : Option Nat} {pu : Bool} {T0 : zTp} {H0 : Heap} {env0 : List Value} {nL : Nat} {st st' : zS} {T : zTp} {H : Heap} {locs : List Loc} {env : List Value} {ls : Array Slot} {stk : List Value} {good : Nat → zS → Prop}
theorem z_iv_int {x : Nat} {v : Int32} (h : env[x]? = some (.int v)) : z_iv env x = v.toInt := by unfold z_iv; rw [h]
theorem z_ile_not {a b : Int} (h : z_ile a b = false) : b < a := Int.not_le.mp (of_decide_eq_false h)
theorem z_pick_ok (hs : z_sat OB D DA cl TY PHI sz raw pu T0 H0 env0 nL st T H locs env ls stk) {x : Nat} {vx : Int32} (hx : env[x]? = some (.int vx)) {a : Int} : ∀ {L : List (Nat × Int)} {w : Int × List (Nat × Int)}, z_pick st x a L = some w → w.1 + z_ev env w.2 ≤ a * z_iv env x + z_ev env L
  | [], w, h => by cases h
  | q :: r, w, h => by
    unfold z_pick at h
    have hr := hs.2.2.2.2.2.2.2.1
    split at h
    · rename_i k hk
      cases h
      cases hc : (z_ile q.2 (-a) && z_ile (-a) q.2 && z_isi st q.1) with
      | false => rw [hc] at hk; cases hk
      | true =>
        rw [hc] at hk
        simp only [Bool.and_eq_true] at hc
        obtain ⟨vy, hy⟩ := z_isi_ok hc.2 hs
        have l1 := z_ile_ok hc.1.1
        have l2 := z_ile_ok hc.1.2
        have hq : q.2 = -a := by omega
        show cond (z_ile 0 a) (a * k) (-a * k) + z_ev env r ≤ a * z_iv env x + (q.2 * z_iv env q.1 + z_ev env r)
        rw [z_iv_int hx, z_iv_int hy, hq]
        cases ha : z_ile 0 a with
        | true =>
          rw [ha] at hk
          obtain ⟨v2, e1, e2⟩ := z_lbs_ok hr hk hx
          rw [hy] at e1
          cases e1
          have := Int.mul_le_mul_of_nonneg_left (show k ≤ vx.toInt - vy.toInt by omega) (z_ile_ok ha)
          rw [Int.mul_sub] at this
          show a * k + z_ev env r ≤ _
          rw [Int.neg_mul]
          omega
        | false =>
          rw [ha] at hk
          obtain ⟨v2, e1, e2⟩ := z_lbs_ok hr hk hy
          rw [hx] at e1
          cases e1
          have han := z_ile_not ha
          have := Int.mul_le_mul_of_nonneg_left (show k ≤ vy.toInt - vx.toInt by omega) (show 0 ≤ -a by omega)
          rw [Int.mul_sub] at this
          show -a * k + z_ev env r ≤ _
          simp only [Int.neg_mul] at this ⊢
          omega
    · split at h
      · rename_i w2 hw2
        cases h
        have ih := z_pick_ok hs hx hw2
        show w2.1 + (q.2 * z_iv env q.1 + z_ev env w2.2) ≤ a * z_iv env x + (q.2 * z_iv env q.1 + z_ev env r)
        omega
      · cases h
theorem z_lw_ok (hs : z_sat OB D DA cl TY PHI sz raw pu T0 H0 env0 nL st T H locs env ls stk) : ∀ {f : Nat} {L : List (Nat × Int)} {b : Int}, z_lw st f L = some b → b ≤ z_ev env L
  | f, [], b, h => by
    unfold z_lw at h
    cases h
    exact Int.le_refl _
  | 0, q :: r, b, h => by cases h
  | f + 1, q :: r, b, h => by
    unfold z_lw at h
    split at h
    · rename_i v hv
      obtain ⟨w, e1, x, rfl, hx⟩ := z_get_ok hs.2.2.2.2.1 hv
      split at h
      · rename_i w2 hw2
        have hp := z_pick_ok hs e1 hw2
        split at h
        · rename_i b2 hb2
          cases h
          have ih := z_lw_ok hs hb2
          show b2 + w2.1 ≤ q.2 * z_iv env q.1 + z_ev env r
          omega
        · cases h
      · split at h
        · rename_i b2 hb2
          cases h
          have ih := z_lw_ok hs hb2
          show b2 + cond (z_ile 0 q.2) (q.2 * v.1) (q.2 * v.2) ≤ q.2 * z_iv env q.1 + z_ev env r
          rw [z_iv_int e1]
          cases ha : z_ile 0 q.2 with
          | true =>
            have := Int.mul_le_mul_of_nonneg_left hx.1 (z_ile_ok ha)
            show b2 + q.2 * v.1 ≤ _
            omega
          | false =>
            have := Int.mul_le_mul_of_nonpos_left (show q.2 ≤ 0 by have := z_ile_not ha; omega) hx.2
            show b2 + q.2 * v.2 ≤ _
            omega
        · cases h
    · cases h
theorem z_ev_app {A B : List (Nat × Int)} : z_ev env (A ++ B) = z_ev env A + z_ev env B := by
  induction A with
  | nil => simp [z_ev]
  | cons q A ih =>
    show q.2 * z_iv env q.1 + z_ev env (A ++ B) = q.2 * z_iv env q.1 + z_ev env A + z_ev env B
    rw [ih]; omega
theorem z_ev_neg {A : List (Nat × Int)} : z_ev env (A.map (fun q => (q.1, -q.2))) = - z_ev env A := by
  induction A with
  | nil => simp [z_ev]
  | cons q A ih =>
    show -q.2 * z_iv env q.1 + z_ev env (A.map (fun q => (q.1, -q.2))) = -(q.2 * z_iv env q.1 + z_ev env A)
    rw [ih, Int.neg_mul]; omega
theorem z_ev_map {sg : List Nat} {env' : List Value} (he : ∀ (t i : Nat), sg[t]? = some i → env'[t]? = env[i]?) : ∀ {A B : List (Nat × Int)}, z_mapt sg A = some B → z_ev env' A = z_ev env B
  | [], B, h => by cases h; rfl
  | q :: A, B, h => by
    unfold z_mapt at h
    split at h
    · rename_i i L hi hL
      cases h
      have ih := z_ev_map he hL
      show q.2 * z_iv env' q.1 + z_ev env' A = q.2 * z_iv env i + z_ev env L
      rw [ih]
      unfold z_iv
      rw [he _ _ hi]
    · cases h
theorem z_ev_pre {w : List Value} : ∀ {A : List (Nat × Int)}, (A.all (fun q => Nat.blt q.1 env.length)) = true → z_ev (env ++ w) A = z_ev env A
  | [], _ => rfl
  | q :: A, h => by
    rw [List.all_cons, Bool.and_eq_true] at h
    have ih := z_ev_pre (w := w) h.2
    show q.2 * z_iv (env ++ w) q.1 + z_ev (env ++ w) A = q.2 * z_iv env q.1 + z_ev env A
    rw [ih]
    unfold z_iv
    rw [List.getElem?_append_left (z_blt h.1)]
theorem z_seq_ok {sg : List Nat} {env' : List Value} (he : ∀ (t i : Nat), sg[t]? = some i → env'[t]? = env[i]?) : ∀ {A B : List Nat} {k : List Value}, z_seq sg A B = true → z_stk env B k → z_stk env' A k
  | [], [], k, _, h => h
  | [], _ :: _, k, h, _ => by cases h
  | _ :: _, [], k, h, _ => by cases h
  | t :: A, i :: B, k, h, ⟨v, k', e1, e2, e3⟩ => by
    unfold z_seq at h
    rw [Bool.and_eq_true] at h
    obtain ⟨h1, h2⟩ := h
    split at h1
    · rename_i j hj
      exact ⟨v, k', e1, by rw [he _ _ hj, z_beq h1]; exact e2, z_seq_ok he h2 e3⟩
    · cases h1
/-- the state of a cut point holds, with its own names -/
theorem z_kr_int {x y : Nat} {n : Int} (h : (z_isi st x && z_isi st y && z_kr st x y n) = true) (hs : z_sat OB D DA cl TY PHI sz raw pu T0 H0 env0 nL st T H locs env ls stk) : ∃ vx vy : Int32, env[x]? = some (.int vx) ∧ env[y]? = some (.int vy) ∧ vy.toInt + n ≤ vx.toInt := by
  rw [Bool.and_eq_true] at h
  obtain ⟨h1, h2⟩ := h
  unfold z_kr at h2
  rw [Bool.or_eq_true] at h2
  rcases h2 with h2 | h2
  · exact z_kn_int (by rw [Bool.and_eq_true]; exact ⟨h1, h2⟩) hs
  · split at h2
    · rename_i r q hr hq
      obtain ⟨v, e1, x1, rfl, hx⟩ := z_get_ok hs.2.2.2.2.1 hr
      obtain ⟨w, e2, y1, rfl, hy⟩ := z_get_ok hs.2.2.2.2.1 hq
      refine ⟨x1, y1, e1, e2, ?_⟩
      have := z_ile_ok h2
      have a1 := hx.1
      have a2 := hy.2
      omega
    · cases h2
theorem z_sub2_ok {tgt : zS} {sg : List Nat} (h : z_sub2 st tgt sg = true) (hs : z_sat OB D DA cl TY PHI sz raw pu T0 H0 env0 nL st T H locs env ls stk) :
    (z_C st).1 ≤ (z_C tgt).1 ∧ (z_C st).2 ≤ (z_C tgt).2 ∧ ∃ env' : List Value, (∀ (t i : Nat), sg[t]? = some i → env'[t]? = env[i]?) ∧ z_sat OB D DA cl TY PHI sz raw pu T0 H0 env' nL tgt T H locs env' ls stk := by
  unfold z_sub2 at h
  simp only [Bool.and_eq_true] at h
  obtain ⟨⟨⟨⟨⟨⟨⟨⟨⟨⟨⟨a1, a2⟩, a3⟩, a4⟩, a5⟩, a6⟩, a7⟩, a8⟩, a9⟩, a10⟩, a11⟩, a12⟩ := h
  refine ⟨Nat.le_of_ble_eq_true a10, Nat.le_of_ble_eq_true a11, sg.map (fun i => env.getD i (.int 0)), ?_⟩
  have he : ∀ (t i : Nat), sg[t]? = some i → (sg.map (fun i => env.getD i (.int 0)))[t]? = env[i]? := by
    intro t i hi
    have hlt := z_blt (List.all_eq_true.mp a2 i (List.mem_of_getElem? hi))
    rw [← hs.1] at hlt
    rw [List.getElem?_map, hi, List.getElem?_eq_getElem hlt]
    simp [hlt]
  refine ⟨he, by rw [List.length_map]; exact z_beq a1, ⟨[], by rw [List.append_nil]⟩, ?_, z_seq_ok he a4 hs.2.2.2.1, fun q hq => ?_, fun q hq => ?_, fun q hq => ?_, fun q hq => ?_, ?_, ?_⟩
  · obtain ⟨lv, g1, g2, g3⟩ := hs.2.2.1
    refine ⟨lv, g1, g2, fun q hq => ?_⟩
    have h1 := List.all_eq_true.mp a3 q hq
    split at h1
    · rename_i d i hd hi
      obtain ⟨v, e1, e2⟩ := g3 _ (z_loc_mem hd)
      exact ⟨v, by rw [he _ _ hi, ← z_beq h1]; exact e1, e2⟩
    · cases h1
  · have h1 := List.all_eq_true.mp a5 q hq
    split at h1
    · rename_i i hi
      split at h1
      · rename_i c0 hc0
        obtain ⟨v, e1, e2⟩ := z_get_ok hs.2.2.2.2.1 hc0
        exact ⟨v, by rw [he _ _ hi]; exact e1, z_le_ok h1 e2⟩
      · cases h1
    · cases h1
  · have h1 := List.all_eq_true.mp a6 q hq
    split at h1
    · rename_i a v cur hia hiv
      split at h1
      · rename_i w hw
        rw [Bool.and_eq_true] at h1
        obtain ⟨f, hf, hf2⟩ := List.any_eq_true.mp h1.2
        simp only [Bool.and_eq_true] at hf2
        obtain ⟨ad, x, r, e1, e2, e3, e4, e5⟩ := hs.2.2.2.2.2.1 f hf
        rw [z_beq hf2.1.1.1] at e1
        rw [z_beq hf2.2] at e2
        rw [z_beq hf2.1.1.2] at e3 e5
        rw [z_beq hf2.1.2] at e4 e5
        exact ⟨ad, x, r, by rw [he _ _ hia]; exact e1, by rw [he _ _ hiv]; exact e2, e3, e4, e5⟩
      · cases h1
    · cases h1
  · have h1 := List.all_eq_true.mp a7 q hq
    split at h1
    · rename_i a j v hia hij hiv
      rw [Bool.and_eq_true] at h1
      obtain ⟨y, hy⟩ := z_isi_ok h1.1 hs
      have h2 := h1.2
      split at h2
      · rename_i w hw
        obtain ⟨ad, x, e1, e2, e3, e4⟩ := z_efind_ok hw hs hy
        rw [z_beq h2] at e2
        exact ⟨ad, y, x, by rw [he _ _ hia]; exact e1, by rw [he _ _ hij]; exact hy, e3, by rw [he _ _ hiv]; exact e2, e4⟩
      · cases h2
    · cases h1
  · have h1 := List.all_eq_true.mp a8 q hq
    split at h1
    · rename_i b a hib hia
      obtain ⟨vx, vy, e1, e2, e3⟩ := z_kr_int h1 hs
      exact ⟨vy, vx, by rw [he _ _ hib]; exact e1, by rw [he _ _ hia]; exact e2, e3⟩
    · cases h1
  · have : z_X tgt = [] := List.isEmpty_iff.mp a9
    show z_fx D cl T sz H0.size raw H _ (z_X tgt)
    rw [this]
    trivial
  · have := hs.2.2.2.2.2.2.2.2.2
    rw [z_beq a12] at this
    exact this
end ZCUTS
end
section
/-! A method by its certificate. -/
abbrev zCe : Type := zK × List zCu × Nat
def z_room (g : zSig) : Room := { frames := (g_rm g).1, cells := (g_mk g).1, slots := (g_mk g).2, locals := (g_rm g).2 }
def z_finV (TY : List zTy) (cl : List vw_C) (g : zSig) (ws : List Nat) (ret : Option FieldType) (st : zS) : Bool := (z_S st).isEmpty && ret.isNone && z_ret TY cl g ws st none
def z_chk (TY : List zTy) (PHI : List (List Nat)) (cl : List vw_C) (FT : Nat → Nat → FieldType) (MT : List zM) (SG : List (Nat × zSig)) (RO PHS : List Nat) (mm : zM) (g : zSig) (ce : zCe) : Bool := match z_ent TY cl FT mm.2.2.1 g with
  | some (st0, ws) => z_run (z_stp TY PHI cl FT MT SG RO PHS (z_room g) (g_pur g) mm.2.2.1 ce.1 mm.2.1 (z_finV TY cl g ws mm.2.2.2.1) (z_iret TY cl g ws mm.2.2.2.1)) (z_cut ce.2.1 (z_n st0) none) ce.2.2 0 st0 &&
    ce.2.1.all (fun k => k.2.2.2.2.all (fun q => Nat.blt q.1 (z_n k.2.1)) && z_run (z_stp TY PHI cl FT MT SG RO PHS (z_room g) (g_pur g) mm.2.2.1 ce.1 mm.2.1 (z_finV TY cl g ws mm.2.2.2.1) (z_iret TY cl g ws mm.2.2.2.1)) (z_cut ce.2.1 (z_n st0) (some k.2.2.2)) ce.2.2 k.1 k.2.1)
  | none => false
section ZMETHOD
variable {p : Program} {l : Launch} {e : Env} {R : Room} {s : State} {m : MethodId} {args : Array Value} {below : List Frame} {meth : Method} {c : Code} {Q : State → Prop} {cc : ByteArray} {pc : Nat}
variable {OB : Nat → Nat} {D : va_G} {DA : Nat → ClassId} {cl : List vw_C} {FT : Nat → Nat → FieldType} {TY : List zTy} {PHI : List (List Nat)} {sz : Nat} {raw : Option Nat} {pu : Bool} {T0 : zTp} {H0 : Heap} {env0 : List Value} {nL : Nat} {st st' : zS} {KXf : (Nat → Nat) → Nat → State → Heap → Prop} {good : Nat → zS → Prop}
variable {Ts TBL : List Cond} {own : String} {MT : List zM} {SG : List (Nat × zSig)} {RO PHS : List Nat} {K : zK}
theorem z_spl_ok (hg : z_Good p l e R s m args below meth c Q OB D DA cl TY PHI sz raw pu T0 H0 env0 nL good) {d : Nat} {t : Int} {L : List zS} (h : z_spl st d t = some L) (hall : ∀ s ∈ L, good pc s) : good pc st := by
  refine (hg _ _).mpr fun T H locs env ls stk hs => ?_
  unfold z_spl at h
  split at h
  · rename_i r hr
    cases h
    obtain ⟨v, e1, x, rfl, hx⟩ := z_get_ok hs.2.2.2.2.1 hr
    have fin : ∀ r2 : zR, z_in r2 x → z_mor st (z_S st) [(d, .inl r2)] [] ∈ (cond (z_ile r.1 t) [z_mor st (z_S st) [(d, .inl (r.1, z_min r.2 t))] []] [] ++ cond (z_ile (t + 1) r.2) [z_mor st (z_S st) [(d, .inl (z_max r.1 (t + 1), r.2))] []] []) → W p l e R s m args below meth c H locs (z_C st).1 (z_C st).2 Q (F0 m pc ls stk) := by
      intro r2 h2 hm
      refine (hg _ _).mp (hall _ hm) T H locs env ls stk (z_sat_mor hs hs.2.2.2.1 (fun q hq => ?_) (fun q hq => absurd hq List.not_mem_nil))
      rw [List.mem_singleton.mp hq]; exact ⟨_, e1, z_vi h2⟩
    rcases Int.lt_or_le t x.toInt with q | q
    · refine fin (z_max r.1 (t + 1), r.2) ⟨z_max_le hx.1 (by omega), hx.2⟩ ?_
      have : z_ile (t + 1) r.2 = true := decide_eq_true (by have := hx.2; omega)
      rw [this]
      exact List.mem_append_right _ (List.mem_singleton.mpr rfl)
    · refine fin (r.1, z_min r.2 t) ⟨hx.1, z_min_ge hx.2 q⟩ ?_
      have : z_ile r.1 t = true := decide_eq_true (by have := hx.1; omega)
      rw [this]
      exact List.mem_append_left _ (List.mem_singleton.mpr rfl)
  · cases h
theorem z_tig_ok (hg : z_Good p l e R s m args below meth c Q OB D DA cl TY PHI sz raw pu T0 H0 env0 nL good) {d f : Nat} {L : List zS} (h : z_tig st d f = some L) (hall : ∀ s ∈ L, good pc s) : good pc st := by
  refine (hg _ _).mpr fun T H locs env ls stk hs => ?_
  unfold z_tig at h
  split at h
  · rename_i r q k hr hq hk
    cases h
    obtain ⟨v, e1, x, rfl, hx⟩ := z_get_ok hs.2.2.2.2.1 hr
    obtain ⟨w, e2, y, rfl, hy⟩ := z_get_ok hs.2.2.2.2.1 hq
    obtain ⟨vx, g1, g2⟩ := z_lbs_ok hs.2.2.2.2.2.2.2.1 hk e2
    rw [e1] at g1
    cases g1
    refine (hg _ _).mp (hall _ (List.mem_singleton.mpr rfl)) T H locs env ls stk (z_sat_mor hs hs.2.2.2.1 (fun q2 hq2 => ?_) (fun q2 hq2 => absurd hq2 List.not_mem_nil))
    rw [List.mem_singleton.mp hq2]
    exact ⟨_, e1, z_vi ⟨hx.1, z_min_ge hx.2 (by have := hy.2; omega)⟩⟩
  · cases h
theorem z_act_ok (hg : z_Good p l e R s m args below meth c Q OB D DA cl TY PHI sz raw pu T0 H0 env0 nL good) (hPH : ∀ a ∈ PHS, z_phok TY PHI a = true) {q : Nat × Nat × Int} {L : List zS} (h : z_act TY PHI cl PHS pu q st = some L) (hall : ∀ s ∈ L, good pc s) : good pc st := by
  unfold z_act at h
  split at h
  · cases hp : pu with
    | true => rw [hp] at h; cases h
    | false =>
      rw [hp] at h
      have h : (match TY[q.2.1]? with
        | some (.inl o) => (match cl[o.1]? with
          | some r => cond (Nat.beq o.2.length r.2.2) ((z_pub TY st 0 q.2.1).map (fun s => [s])) none
          | none => none)
        | _ => none) = some L := h
      split at h
      · rename_i o ho
        split at h
        · rename_i r hr
          cases hb : Nat.beq o.2.length r.2.2 with
          | false => rw [hb] at h; cases h
          | true =>
            rw [hb] at h
            cases hz : z_pub TY st 0 q.2.1 with
            | none => rw [hz] at h; cases h
            | some s1 =>
              rw [hz] at h
              cases h
              refine z_pub_ok hp hg (fun ci fl h1 r2 h2 => ?_) hz (hall _ (List.mem_singleton.mpr rfl))
              rw [ho] at h1
              cases h1
              rw [hr] at h2
              cases h2
              exact z_beq hb
        · cases h
      · cases h
  · cases hp : (pu || !(PHS.any (fun x => Nat.beq x q.2.1))) with
    | true => rw [hp] at h; cases h
    | false =>
      rw [hp] at h
      rw [Bool.or_eq_false_iff] at hp
      obtain ⟨p1, p2⟩ := hp
      have p3 : PHS.any (fun x => Nat.beq x q.2.1) = true := by simpa using p2
      obtain ⟨a, ha, ha2⟩ := List.any_eq_true.mp p3
      have hph := hPH a ha
      rw [z_beq ha2] at hph
      cases hnb : Nat.beq (z_ph st) q.2.1 with
      | true =>
        rw [hnb] at h
        cases h
        exact hall _ (List.mem_singleton.mpr rfl)
      | false =>
        rw [hnb] at h
        cases hz : z_rty PHI st q.2.1 with
        | none => rw [hz] at h; cases h
        | some s1 =>
          rw [hz] at h
          cases h
          exact z_rty_ok p1 hg hph hz (hall _ (List.mem_singleton.mpr rfl))
  · split at h
    · exact z_spl_ok hg h hall
    · cases h
  · split at h
    · exact z_tig_ok hg h hall
    · cases h
  · split at h
    · exact z_spl_ok hg h hall
    · cases h
theorem z_fmp_ok {α : Type} {f : zS → Option (List α)} : ∀ {L : List zS} {r : List α}, z_fmp f L = some r → ∀ s ∈ L, ∃ a, f s = some a ∧ ∀ x ∈ a, x ∈ r
  | [], _, _, s, hs => absurd hs List.not_mem_nil
  | x :: L, r, h, s, hs => by
    unfold z_fmp at h
    split at h
    · rename_i a b ha hb
      cases h
      rcases List.mem_cons.mp hs with rfl | hs
      · exact ⟨a, ha, fun y hy => List.mem_append_left _ hy⟩
      · obtain ⟨a2, h1, h2⟩ := z_fmp_ok hb s hs
        exact ⟨a2, h1, fun y hy => List.mem_append_right _ (h2 y hy)⟩
    · cases h
theorem z_acts_ok (hg : z_Good p l e R s m args below meth c Q OB D DA cl TY PHI sz raw pu T0 H0 env0 nL good) (hPH : ∀ a ∈ PHS, z_phok TY PHI a = true) : ∀ {A : List (Nat × Nat × Nat × Int)} {st : zS} {L : List zS}, z_acts TY PHI cl PHS pu A pc st = some L → (∀ s ∈ L, good pc s) → good pc st
  | [], st, L, h, hall => by
    cases h
    exact hall _ (List.mem_singleton.mpr rfl)
  | q :: r, st, L, h, hall => by
    unfold z_acts at h
    cases hb : Nat.beq q.1 pc with
    | false => rw [hb] at h; exact z_acts_ok hg hPH h hall
    | true =>
      rw [hb] at h
      have h : (match z_act TY PHI cl PHS pu q.2 st with
        | some L => z_fmp (z_acts TY PHI cl PHS pu r pc) L
        | none => none) = some L := h
      split at h
      · rename_i L1 h1
        refine z_act_ok hg hPH h1 (fun s1 hs1 => ?_)
        obtain ⟨a, k1, k2⟩ := z_fmp_ok h s1 hs1
        exact z_acts_ok hg hPH k1 (fun x hx => hall x (k2 x hx))
      · cases h
theorem z_stp_ok (hg : z_Good p l e R s m args below meth c Q OB D DA cl TY PHI sz raw pu T0 H0 env0 nL good) (hx : p.tables.exec = Jvm.exec) (hb : c.code = cc) (hml : c.maxLocals = nL) (hD : z_Dy s m args Ts own D cl DA (z_tys DA)) (hsz : sz ≤ H0.size) (hXp : z_KXp sz (KXf OB sz)) (hX : KXf OB sz s H0) (hKS : z_KS Ts TBL cl FT own MT K) (hin : ∀ j, k_IN K = some j → meth.name = "<init>") (hPH : ∀ a ∈ PHS, z_phok TY PHI a = true)
    (hok : ∀ g ∈ (k_CA K).filterMap (fun a => SG[a.2]?), ∀ mm, MT[g.1]? = some mm → z_OK TBL cl FT TY PHI KXf mm.1 mm.2.1 mm.2.2.1 mm.2.2.2.1 g.2) {finV finI : zS → Bool} (hfV : ∀ pc st, decode cc pc = .ok (.return_, 1) → finV st = true → good pc st) (hfI : ∀ pc st, decode cc pc = .ok (.ireturn, 1) → finI st = true → good pc st)
    {L : List (Nat × zS)} (h : z_stp TY PHI cl FT MT SG RO PHS R pu nL K cc finV finI pc st = some L) (hall : ∀ q ∈ L, good q.1 q.2) : good pc st := by
  unfold z_stp at h
  split at h
  · rename_i L1 h1
    refine z_acts_ok hg hPH h1 (fun s1 hs1 => ?_)
    split at h
    · rename_i len hd
      cases hc : (Nat.beq len 1 && L1.all finV) with
      | false => rw [hc] at h; cases h
      | true =>
        rw [Bool.and_eq_true] at hc
        rw [z_beq hc.1] at hd
        exact hfV pc s1 hd (List.all_eq_true.mp hc.2 s1 hs1)
    · rename_i len hd
      cases hc : (Nat.beq len 1 && L1.all finI) with
      | false => rw [hc] at h; cases h
      | true =>
        rw [Bool.and_eq_true] at hc
        rw [z_beq hc.1] at hd
        exact hfI pc s1 hd (List.all_eq_true.mp hc.2 s1 hs1)
    · rename_i ins len _ _ hd
      obtain ⟨a, k1, k2⟩ := z_fmp_ok h s1 hs1
      exact z_step_ok hg hx hb hml hD hsz hXp hX hKS hin hok hd k1 (fun q hq => hall q (k2 q hq))
    · cases h
  · cases h
theorem z_run_ok {stp : Nat → zS → Option (List (Nat × zS))} {cut : Nat → zS → Bool} (hst : ∀ pc st L, stp pc st = some L → (∀ q ∈ L, good q.1 q.2) → good pc st) (hcut : ∀ pc st, cut pc st = true → good pc st) : ∀ {f pc : Nat} {st : zS}, z_run stp cut f pc st = true → good pc st
  | 0, _, _, h => by cases h
  | f + 1, pc, st, h => by
    unfold z_run at h
    split at h
    · rename_i L hL
      refine hst pc st L hL (fun q hq => ?_)
      have h1 := List.all_eq_true.mp h q hq
      rw [Bool.or_eq_true] at h1
      rcases h1 with h1 | h1
      · exact hcut _ _ h1
      · exact z_run_ok hst hcut h1
    · cases h
/-- a run with its cut points: 'ends' is what is known of the values with the first names -/
theorem z_runs {CU : List zCu} {ng : Nat} {stp : Nat → zS → Option (List (Nat × zS))} {fuel : Nat} {ends : List Value → Prop} (hends : ∀ env env' : List Value, ends env → (∀ i, i < ng → env'[i]? = env[i]?) → ends env')
    (hst : ∀ (env0 : List Value) (pc : Nat) (st : zS) (L : List (Nat × zS)), ends env0 → stp pc st = some L → (∀ q ∈ L, ∀ T H locs env ls stk, z_sat OB D DA cl TY PHI sz raw pu T0 H0 env0 nL q.2 T H locs env ls stk → W p l e R s m args below meth c H locs (z_C q.2).1 (z_C q.2).2 Q (F0 m q.1 ls stk)) → ∀ T H locs env ls stk, z_sat OB D DA cl TY PHI sz raw pu T0 H0 env0 nL st T H locs env ls stk → W p l e R s m args below meth c H locs (z_C st).1 (z_C st).2 Q (F0 m pc ls stk))
    (hCU : CU.all (fun k => k.2.2.2.2.all (fun q => Nat.blt q.1 (z_n k.2.1)) && z_run stp (z_cut CU ng (some k.2.2.2)) fuel k.1 k.2.1) = true) {st0 : zS} {pc0 : Nat} (h0 : z_run stp (z_cut CU ng none) fuel pc0 st0 = true) {env0 : List Value} (he : ends env0) {T : zTp} {H : Heap} {locs : List Loc} {env : List Value} {ls : Array Slot} {stk : List Value} (hng : ng ≤ env0.length)
    (hs : z_sat OB D DA cl TY PHI sz raw pu T0 H0 env0 nL st0 T H locs env ls stk) : W p l e R s m args below meth c H locs (z_C st0).1 (z_C st0).2 Q (F0 m pc0 ls stk) := by
  -- all cut points, by the rank
  have cuts : ∀ n : Nat, ∀ k ∈ CU, ∀ T H locs env ls stk, z_sat OB D DA cl TY PHI sz raw pu T0 H0 env nL k.2.1 T H locs env ls stk → ends env → ng ≤ env.length → 0 ≤ k.2.2.2.1 + z_ev env k.2.2.2.2 → (k.2.2.2.1 + z_ev env k.2.2.2.2).toNat ≤ n → W p l e R s m args below meth c H locs (z_C k.2.1).1 (z_C k.2.1).2 Q (F0 m k.1 ls stk) := by
    intro n
    induction n using Nat.strongRecOn with
    | ind n ih =>
      intro k hk T H locs env ls stk hs1 he1 hn1 hr0 hr1
      have hk2 := List.all_eq_true.mp hCU k hk
      rw [Bool.and_eq_true] at hk2
      refine z_run_ok (good := fun pc st => ∀ T H locs env2 ls stk, z_sat OB D DA cl TY PHI sz raw pu T0 H0 env nL st T H locs env2 ls stk → W p l e R s m args below meth c H locs (z_C st).1 (z_C st).2 Q (F0 m pc ls stk)) (fun pc st L h1 h2 => hst env pc st L he1 h1 h2) (fun pc st h1 => ?_) hk2.2 T H locs env ls stk hs1
      intro T2 H2 locs2 env2 ls2 stk2 hs2
      unfold z_cut at h1
      obtain ⟨k3, hk3, h3⟩ := List.any_eq_true.mp h1
      rw [Bool.and_eq_true] at h3
      obtain ⟨h3a, h3b⟩ := h3
      split at h3b
      · rename_i sg hsg
        simp only [Bool.and_eq_true] at h3b
        obtain ⟨⟨b1, b2⟩, b3⟩ := h3b
        obtain ⟨c1, c2, env3, c3, c4⟩ := z_sub2_ok b1 hs2
        have gh : ∀ i, i < ng → env3[i]? = env[i]? := by
          intro i hi
          have := List.all_eq_true.mp b2 i (List.mem_range.mpr hi)
          split at this
          · rename_i j hj
            obtain ⟨w, hw⟩ := hs2.2.1
            rw [c3 _ _ hj, z_beq this, hw, List.getElem?_append_left (by omega)]
          · cases this
        unfold z_rnk at b3
        split at b3
        · rename_i t ht
          rw [Bool.and_eq_true] at b3
          obtain ⟨d1, d2⟩ := b3
          have e3 := z_ev_map c3 ht
          obtain ⟨w, hw⟩ := hs2.2.1
          have e4 : z_ev env2 k.2.2.2.2 = z_ev env k.2.2.2.2 := by
            rw [hw]
            refine z_ev_pre ?_
            rw [hs1.1]; exact hk2.1
          have lo : 0 ≤ k3.2.2.2.1 + z_ev env3 k3.2.2.2.2 := by
            split at d1
            · rename_i b hb
              have := z_lw_ok hs2 hb
              have := z_ile_ok d1
              rw [e3]; omega
            · cases d1
          have lt : k3.2.2.2.1 + z_ev env3 k3.2.2.2.2 < k.2.2.2.1 + z_ev env k.2.2.2.2 := by
            have d2 : (match z_lw st 12 (k.2.2.2.2 ++ t.map (fun q => (q.1, -q.2))) with
              | some b => z_ile 1 (k.2.2.2.1 - k3.2.2.2.1 + b)
              | none => false) = true := d2
            split at d2
            · rename_i b hb
              have h5 := z_lw_ok hs2 hb
              have h6 := z_ile_ok d2
              rw [z_ev_app, z_ev_neg, e4] at h5
              rw [e3]; omega
            · cases d2
          have hlen : ng ≤ env3.length := by
            rcases Nat.eq_zero_or_pos ng with h | h
            · omega
            · have h7 := gh (ng - 1) (by omega)
              have h8 : ng - 1 < env.length := by omega
              rw [List.getElem?_eq_getElem h8] at h7
              have := (List.getElem?_eq_some_iff.mp h7).1
              omega
          have := ih (k3.2.2.2.1 + z_ev env3 k3.2.2.2.2).toNat (by omega) k3 hk3 T2 H2 locs2 env3 ls2 stk2 c4 (hends env env3 he1 gh) hlen lo (Nat.le_refl _)
          rw [z_beq h3a] at this
          exact W.widen c1 c2 this
        · cases b3
      · cases h3b
  refine z_run_ok (good := fun pc st => ∀ T H locs env2 ls stk, z_sat OB D DA cl TY PHI sz raw pu T0 H0 env0 nL st T H locs env2 ls stk → W p l e R s m args below meth c H locs (z_C st).1 (z_C st).2 Q (F0 m pc ls stk)) (fun pc st L h1 h2 => hst env0 pc st L he h1 h2) (fun pc st h1 => ?_) h0 T H locs env ls stk hs
  intro T2 H2 locs2 env2 ls2 stk2 hs2
  unfold z_cut at h1
  obtain ⟨k3, hk3, h3⟩ := List.any_eq_true.mp h1
  rw [Bool.and_eq_true] at h3
  obtain ⟨h3a, h3b⟩ := h3
  split at h3b
  · rename_i sg hsg
    simp only [Bool.and_eq_true] at h3b
    obtain ⟨⟨b1, b2⟩, b3⟩ := h3b
    obtain ⟨c1, c2, env3, c3, c4⟩ := z_sub2_ok b1 hs2
    have gh : ∀ i, i < ng → env3[i]? = env0[i]? := by
      intro i hi
      have := List.all_eq_true.mp b2 i (List.mem_range.mpr hi)
      split at this
      · rename_i j hj
        obtain ⟨w, hw⟩ := hs2.2.1
        rw [c3 _ _ hj, z_beq this, hw, List.getElem?_append_left (by omega)]
      · cases this
    unfold z_rnk at b3
    split at b3
    · rename_i t ht
      rw [Bool.and_eq_true] at b3
      obtain ⟨d1, d2⟩ := b3
      have e3 := z_ev_map c3 ht
      have lo : 0 ≤ k3.2.2.2.1 + z_ev env3 k3.2.2.2.2 := by
        split at d1
        · rename_i b hb
          have := z_lw_ok hs2 hb
          have := z_ile_ok d1
          rw [e3]; omega
        · cases d1
      have hlen : ng ≤ env3.length := by
        rcases Nat.eq_zero_or_pos ng with h | h
        · omega
        · have h7 := gh (ng - 1) (by omega)
          have h8 : ng - 1 < env0.length := by omega
          rw [List.getElem?_eq_getElem h8] at h7
          have := (List.getElem?_eq_some_iff.mp h7).1
          omega
      have := cuts _ k3 hk3 T2 H2 locs2 env3 ls2 stk2 c4 (hends env0 env3 he gh) hlen lo (Nat.le_refl _)
      rw [z_beq h3a] at this
      exact W.widen c1 c2 this
    · cases b3
  · cases h3b
end ZMETHOD
end
section
/-! A checked certificate gives the contract. -/
section ZCLOSED
variable {cl : List vw_C} {FT : Nat → Nat → FieldType} {TY : List zTy} {PHI : List (List Nat)} {KXf : (Nat → Nat) → Nat → State → Heap → Prop} {TBL : List Cond} {MT : List zM} {SG : List (Nat × zSig)} {RO PHS : List Nat}
theorem z_tys_ok (DA : Nat → ClassId) : ∀ k, k < 3 → (z_tys DA)[k]? = some (DA k, z_ek k) := by
  intro k hk
  match k, hk with
  | 0, _ => rfl
  | 1, _ => rfl
  | 2, _ => rfl
theorem z_meth {mm : zM} {g : zSig} {ce : zCe} (hpl : plainFor mm.1 = true) (hKS : z_KS (Cond.code mm.1 mm.2.1 mm.2.2.1 mm.2.2.2.1 :: TBL) TBL cl FT mm.1.cls MT ce.1) (hin : ∀ j, k_IN ce.1 = some j → mm.1.name = "<init>") (hXp : ∀ OB sz, z_KXp sz (KXf OB sz)) (hPH : ∀ a ∈ PHS, z_phok TY PHI a = true)
    (hok : ∀ g ∈ (k_CA ce.1).filterMap (fun a => SG[a.2]?), ∀ m2, MT[g.1]? = some m2 → z_OK TBL cl FT TY PHI KXf m2.1 m2.2.1 m2.2.2.1 m2.2.2.2.1 g.2) (h : z_chk TY PHI cl FT MT SG RO PHS mm g ce = true) : z_OK TBL cl FT TY PHI KXf mm.1 mm.2.1 mm.2.2.1 mm.2.2.2.1 g := by
  intro l OB D DA sz T
  refine va_MetF (cc := mm.2.1) (maxL := mm.2.2.1) (ret := mm.2.2.2.1) hpl rfl ?_
  intro p e s m args below meth c s₁ B hml hPre
  unfold z_chk at h
  split at h
  · rename_i st0 ws hent
    rw [Bool.and_eq_true] at h
    obtain ⟨vals, e0, hrest⟩ := hPre
    subst e0
    have hPre2 : z_Pre OB D DA cl FT TY sz (KXf OB sz) g T vals.toArray s := ⟨vals, rfl, hrest⟩
    obtain ⟨hl, h1, h2, h3, h4, h5, hsz, hK, hX⟩ := hrest
    obtain ⟨hcat, hn, env, raw, hraw, hsat, hlen, hvals, hwl, hws⟩ := z_ent_ok (pu := g_pur g) (PHI := PHI) hPre2 hent
    have hts : ∀ w ∈ (Cond.code mm.1 mm.2.1 mm.2.2.1 mm.2.2.2.1 :: TBL), w.before vals.toArray s = true := atoms_spec (ws := Cond.code mm.1 mm.2.1 mm.2.2.1 mm.2.2.2.1 :: TBL) B.pre
    have hown : s.vm.findClass mm.1.cls = some m.cls := findClass_of_methodNamed B.named
    have hD : z_Dy s m vals.toArray (Cond.code mm.1 mm.2.1 mm.2.2.1 mm.2.2.2.1 :: TBL) mm.1.cls D cl DA (z_tys DA) := ⟨hts, hown, hK, z_tys_ok DA⟩
    have hname : meth.name = mm.1.name := (name_of_methodNamed B.named B.method).1
    rw [lg_entry_eq]
    have hng : z_n st0 ≤ env.length := by rw [hsat.1]; exact Nat.le_refl _
    have hE0 : z_Ent D cl g raw (g_pur g) s.heap env vals ws := ⟨hraw, fun h => h, hlen, hvals, hwl, hws⟩
    have hC : z_C st0 = (0, 0) ∨ True := Or.inr trivial
    refine W.widen (Nat.zero_le _) (Nat.zero_le _) (z_runs (ng := z_n st0) (ends := fun env2 => z_Ent D cl g raw (g_pur g) s.heap env2 vals ws ∧ (∀ i, i < z_n st0 → env2[i]? = env[i]?)) (fun env1 env2 he hgh => ?_) (fun env1 pc st L he hL hall => ?_) h.2 h.1 ⟨hE0, fun _ _ => rfl⟩ hng hsat)
    · obtain ⟨⟨a1, a2, a3, a4, a5, a6⟩, a7⟩ := he
      have all : ∀ i, i < z_n st0 → env2[i]? = env[i]? := fun i hi => (hgh i hi).trans (a7 i hi)
      refine ⟨⟨a1, a2, a3, fun j v hj => ?_, a5, fun i q w hi hw => ?_⟩, all⟩
      · have hv := hvals j v hj
        have hlt : j < z_n st0 := by rw [← hsat.1]; exact (List.getElem?_eq_some_iff.mp hv).1
        rw [all j hlt]; exact hv
      · obtain ⟨v, y1, y2⟩ := hws i q w hi hw
        have hlt : w < z_n st0 := by rw [← hsat.1]; exact (List.getElem?_eq_some_iff.mp y1).1
        exact ⟨v, by rw [all w hlt]; exact y1, y2⟩
    · refine z_stp_ok (good := fun pc st => ∀ T2 H2 locs2 env2 ls2 stk2, z_sat OB D DA cl TY PHI sz raw (g_pur g) T s.heap env1 mm.2.2.1 st T2 H2 locs2 env2 ls2 stk2 → W p l e (z_room g) s m vals.toArray below meth c H2 locs2 (z_C st).1 (z_C st).2 (MQ below (z_Post OB D DA cl TY PHI sz g T) vals.toArray s (g_mk g).1 (g_mk g).2 (fun q => sz ≤ q)) (F0 m pc ls2 stk2)) (fun _ _ => Iff.rfl) B.exec B.bytes hml hD hsz (hXp OB sz) hX hKS (fun j hj => by rw [hname]; exact hin j hj) hPH hok (fun pc st hd hf => ?_) (fun pc st hd hf => ?_) hL hall
      · unfold z_finV at hf
        simp only [Bool.and_eq_true] at hf
        obtain ⟨⟨f1, f2⟩, f3⟩ := hf
        have hr : meth.sig.returnType = none := by rw [B.returns]; exact Option.isNone_iff_eq_none.mp f2
        exact z_r_vret (fun _ _ => Iff.rfl) B.exec B.bytes hr B.notSynchronized he.1 hd (List.isEmpty_iff.mp f1) f3
      · exact z_r_iret (fun _ _ => Iff.rfl) B.exec B.bytes B.returns B.notSynchronized he.1 hd hf
  · cases h
end ZCLOSED
end
section
/-! The same in pieces, and with a step of its own: a hook. -/
abbrev zHk : Type := Nat → zS → Option (List (Nat × zS))
def z_non : zHk := fun _ _ => none
def z_hst (hk : zHk) (stp : Nat → zS → Option (List (Nat × zS))) (pc : Nat) (st : zS) : Option (List (Nat × zS)) := match hk pc st with
  | some L => some L
  | none => stp pc st
def z_chk0 (hk : zHk) (TY : List zTy) (PHI : List (List Nat)) (cl : List vw_C) (FT : Nat → Nat → FieldType) (MT : List zM) (SG : List (Nat × zSig)) (RO PHS : List Nat) (mm : zM) (g : zSig) (ce : zCe) : Bool := match z_ent TY cl FT mm.2.2.1 g with
  | some (st0, ws) => z_run (z_hst hk (z_stp TY PHI cl FT MT SG RO PHS (z_room g) (g_pur g) mm.2.2.1 ce.1 mm.2.1 (z_finV TY cl g ws mm.2.2.2.1) (z_iret TY cl g ws mm.2.2.2.1))) (z_cut ce.2.1 (z_n st0) none) ce.2.2 0 st0
  | none => false
def z_chkP (hk : zHk) (TY : List zTy) (PHI : List (List Nat)) (cl : List vw_C) (FT : Nat → Nat → FieldType) (MT : List zM) (SG : List (Nat × zSig)) (RO PHS : List Nat) (mm : zM) (g : zSig) (ce : zCe) (P : List zCu) : Bool := match z_ent TY cl FT mm.2.2.1 g with
  | some (st0, ws) => P.all (fun k => k.2.2.2.2.all (fun q => Nat.blt q.1 (z_n k.2.1)) && z_run (z_hst hk (z_stp TY PHI cl FT MT SG RO PHS (z_room g) (g_pur g) mm.2.2.1 ce.1 mm.2.1 (z_finV TY cl g ws mm.2.2.2.1) (z_iret TY cl g ws mm.2.2.2.1))) (z_cut ce.2.1 (z_n st0) (some k.2.2.2)) ce.2.2 k.1 k.2.1)
  | none => false
section ZHOOK
variable {cl : List vw_C} {FT : Nat → Nat → FieldType} {TY : List zTy} {PHI : List (List Nat)} {KXf : (Nat → Nat) → Nat → State → Heap → Prop} {TBL : List Cond} {MT : List zM} {SG : List (Nat × zSig)} {RO PHS : List Nat} {hk : zHk} {mm : zM} {g : zSig} {ce : zCe}
theorem z_chkP_app {A B : List zCu} (h1 : z_chkP hk TY PHI cl FT MT SG RO PHS mm g ce A = true) (h2 : z_chkP hk TY PHI cl FT MT SG RO PHS mm g ce B = true) : z_chkP hk TY PHI cl FT MT SG RO PHS mm g ce (A ++ B) = true := by
  unfold z_chkP at h1 h2 ⊢
  split at h1
  · rename_i st0 ws hent
    rw [hent] at h2
    have h2 : B.all _ = true := h2
    show (A ++ B).all _ = true
    rw [List.all_append, Bool.and_eq_true]
    exact ⟨h1, h2⟩
  · cases h1
/-- what a hook must keep -/
def z_hok (TBL : List Cond) (cl : List vw_C) (TY : List zTy) (PHI : List (List Nat)) (KXf : (Nat → Nat) → Nat → State → Heap → Prop) (mm : zM) (g : zSig) (hk : zHk) : Prop :=
  ∀ (p : Program) (l : Launch) (e : Env) (s : State) (m : MethodId) (args : Array Value) (below : List Frame) (meth : Method) (c : Code) (Q : State → Prop) (OB : Nat → Nat) (D : va_G) (DA : Nat → ClassId) (sz : Nat) (raw : Option Nat) (T0 : zTp) (H0 : Heap) (env0 : List Value) (good : Nat → zS → Prop),
    z_Good p l e (z_room g) s m args below meth c Q OB D DA cl TY PHI sz raw (g_pur g) T0 H0 env0 mm.2.2.1 good → p.tables.exec = Jvm.exec → c.code = mm.2.1 → c.maxLocals = mm.2.2.1 → z_Dy s m args (Cond.code mm.1 mm.2.1 mm.2.2.1 mm.2.2.2.1 :: TBL) mm.1.cls D cl DA (z_tys DA) → sz ≤ H0.size → KXf OB sz s H0 →
    ∀ pc st L, hk pc st = some L → (∀ q ∈ L, good q.1 q.2) → good pc st
theorem z_non_ok : z_hok TBL cl TY PHI KXf mm g z_non := by
  intro p l e s m args below meth c Q OB D DA sz raw T0 H0 env0 good _ _ _ _ _ _ _ pc st L h
  cases h
theorem z_methH (hpl : plainFor mm.1 = true) (hKS : z_KS (Cond.code mm.1 mm.2.1 mm.2.2.1 mm.2.2.2.1 :: TBL) TBL cl FT mm.1.cls MT ce.1) (hin : ∀ j, k_IN ce.1 = some j → mm.1.name = "<init>") (hXp : ∀ OB sz, z_KXp sz (KXf OB sz)) (hPH : ∀ a ∈ PHS, z_phok TY PHI a = true)
    (hok : ∀ g ∈ (k_CA ce.1).filterMap (fun a => SG[a.2]?), ∀ m2, MT[g.1]? = some m2 → z_OK TBL cl FT TY PHI KXf m2.1 m2.2.1 m2.2.2.1 m2.2.2.2.1 g.2) (hH : z_hok TBL cl TY PHI KXf mm g hk) (h0 : z_chk0 hk TY PHI cl FT MT SG RO PHS mm g ce = true) (hP : z_chkP hk TY PHI cl FT MT SG RO PHS mm g ce ce.2.1 = true) : z_OK TBL cl FT TY PHI KXf mm.1 mm.2.1 mm.2.2.1 mm.2.2.2.1 g := by
  intro l OB D DA sz T
  refine va_MetF (cc := mm.2.1) (maxL := mm.2.2.1) (ret := mm.2.2.2.1) hpl rfl ?_
  intro p e s m args below meth c s₁ B hml hPre
  unfold z_chk0 at h0
  unfold z_chkP at hP
  split at h0
  · rename_i st0 ws hent
    rw [hent] at hP
    have hP : ce.2.1.all _ = true := hP
    obtain ⟨vals, e0, hrest⟩ := hPre
    subst e0
    have hPre2 : z_Pre OB D DA cl FT TY sz (KXf OB sz) g T vals.toArray s := ⟨vals, rfl, hrest⟩
    obtain ⟨hl, h1, h2, h3, h4, h5, hsz, hK, hX⟩ := hrest
    obtain ⟨hcat, hn, env, raw, hraw, hsat, hlen, hvals, hwl, hws⟩ := z_ent_ok (pu := g_pur g) (PHI := PHI) hPre2 hent
    have hts : ∀ w ∈ (Cond.code mm.1 mm.2.1 mm.2.2.1 mm.2.2.2.1 :: TBL), w.before vals.toArray s = true := atoms_spec (ws := Cond.code mm.1 mm.2.1 mm.2.2.1 mm.2.2.2.1 :: TBL) B.pre
    have hown : s.vm.findClass mm.1.cls = some m.cls := findClass_of_methodNamed B.named
    have hD : z_Dy s m vals.toArray (Cond.code mm.1 mm.2.1 mm.2.2.1 mm.2.2.2.1 :: TBL) mm.1.cls D cl DA (z_tys DA) := ⟨hts, hown, hK, z_tys_ok DA⟩
    have hname : meth.name = mm.1.name := (name_of_methodNamed B.named B.method).1
    rw [lg_entry_eq]
    have hng : z_n st0 ≤ env.length := by rw [hsat.1]; exact Nat.le_refl _
    have hE0 : z_Ent D cl g raw (g_pur g) s.heap env vals ws := ⟨hraw, fun h => h, hlen, hvals, hwl, hws⟩
    have hC : z_C st0 = (0, 0) ∨ True := Or.inr trivial
    refine W.widen (Nat.zero_le _) (Nat.zero_le _) (z_runs (ng := z_n st0) (ends := fun env2 => z_Ent D cl g raw (g_pur g) s.heap env2 vals ws ∧ (∀ i, i < z_n st0 → env2[i]? = env[i]?)) (fun env1 env2 he hgh => ?_) (fun env1 pc st L he hL hall => ?_) hP h0 ⟨hE0, fun _ _ => rfl⟩ hng hsat)
    · obtain ⟨⟨a1, a2, a3, a4, a5, a6⟩, a7⟩ := he
      have all : ∀ i, i < z_n st0 → env2[i]? = env[i]? := fun i hi => (hgh i hi).trans (a7 i hi)
      refine ⟨⟨a1, a2, a3, fun j v hj => ?_, a5, fun i q w hi hw => ?_⟩, all⟩
      · have hv := hvals j v hj
        have hlt : j < z_n st0 := by rw [← hsat.1]; exact (List.getElem?_eq_some_iff.mp hv).1
        rw [all j hlt]; exact hv
      · obtain ⟨v, y1, y2⟩ := hws i q w hi hw
        have hlt : w < z_n st0 := by rw [← hsat.1]; exact (List.getElem?_eq_some_iff.mp y1).1
        exact ⟨v, by rw [all w hlt]; exact y1, y2⟩
    · unfold z_hst at hL
      split at hL
      · rename_i L2 hL2
        cases hL
        exact hH p l e s m vals.toArray below meth c _ OB D DA sz raw T s.heap env1 (fun pc st => ∀ T2 H2 locs2 env2 ls2 stk2, z_sat OB D DA cl TY PHI sz raw (g_pur g) T s.heap env1 mm.2.2.1 st T2 H2 locs2 env2 ls2 stk2 → W p l e (z_room g) s m vals.toArray below meth c H2 locs2 (z_C st).1 (z_C st).2 (MQ below (z_Post OB D DA cl TY PHI sz g T) vals.toArray s (g_mk g).1 (g_mk g).2 (fun q => sz ≤ q)) (F0 m pc ls2 stk2)) (fun _ _ => Iff.rfl) B.exec B.bytes hml hD hsz hX pc st L hL2 hall
      refine z_stp_ok (good := fun pc st => ∀ T2 H2 locs2 env2 ls2 stk2, z_sat OB D DA cl TY PHI sz raw (g_pur g) T s.heap env1 mm.2.2.1 st T2 H2 locs2 env2 ls2 stk2 → W p l e (z_room g) s m vals.toArray below meth c H2 locs2 (z_C st).1 (z_C st).2 (MQ below (z_Post OB D DA cl TY PHI sz g T) vals.toArray s (g_mk g).1 (g_mk g).2 (fun q => sz ≤ q)) (F0 m pc ls2 stk2)) (fun _ _ => Iff.rfl) B.exec B.bytes hml hD hsz (hXp OB sz) hX hKS (fun j hj => by rw [hname]; exact hin j hj) hPH hok (fun pc st hd hf => ?_) (fun pc st hd hf => ?_) hL hall
      · unfold z_finV at hf
        simp only [Bool.and_eq_true] at hf
        obtain ⟨⟨f1, f2⟩, f3⟩ := hf
        have hr : meth.sig.returnType = none := by rw [B.returns]; exact Option.isNone_iff_eq_none.mp f2
        exact z_r_vret (fun _ _ => Iff.rfl) B.exec B.bytes hr B.notSynchronized he.1 hd (List.isEmpty_iff.mp f1) f3
      · exact z_r_iret (fun _ _ => Iff.rfl) B.exec B.bytes B.returns B.notSynchronized he.1 hd hf
  · cases h0
end ZHOOK
end
section
/-! The length of a string constant, by hand. -/
def zs_K (own tx : String) (k n : Nat) (OB : Nat → Nat) (sz : Nat) (U : State) (H : Heap) : Prop := ∃ (adV : Nat) (f : Nat → Value), vk_R own k tx (OB 1) U ∧ va_O "java/lang/String" (OB 1) (fun q => sz ≤ q) U H ∧ va_OF "java/lang/String" "coder" "B" (.int 0) (OB 1) (fun q => sz ≤ q) U H ∧ va_OF "java/lang/String" "value" "[B" (.ref adV) (OB 1) (fun q => sz ≤ q) U H ∧ va_T .byte adV n f (fun q => sz ≤ q) U H ∧ va_Z "java/lang/String" "COMPACT_STRINGS" "Z" (.int 1) (fun q => sz ≤ q) U H
theorem zs_K_p {own tx : String} {k n : Nat} {OB : Nat → Nat} {sz : Nat} : z_KXp sz (zs_K own tx k n OB sz) := by
  refine ⟨fun s U H h hW => ?_, fun s H H1 h _ hq => ?_, fun u U H hvm h => ?_⟩
  · obtain ⟨adV, f, k1, k2, k3, k4, k5, k6⟩ := h
    exact ⟨adV, f, vk_R.warm hW k1, va_O.moved hW.alike k2, va_OF.moved hW.alike k3, va_OF.moved hW.alike k4, va_T.moved hW.alike k5, va_Z.moved hW.alike k6⟩
  · obtain ⟨adV, f, k1, k2, k3, k4, k5, k6⟩ := h
    exact ⟨adV, f, k1, k2.kept hq, k3.kept hq, k4.kept hq, k5.kept hq, k6.kept hq⟩
  · obtain ⟨adV, f, k1, k2, k3, k4, k5, k6⟩ := h
    have ha : u.vm.Alike U.vm := by rw [hvm]; exact Vm.Alike.refl _
    exact ⟨adV, f, vk_R.same hvm k1, va_O.moved ha k2, va_OF.moved ha k3, va_OF.moved ha k4, va_T.moved ha k5, va_Z.moved ha k6⟩
def zs_P (own tx : String) (k n : Nat) (OB : Nat → Nat) (sz : Nat) (args : Array Value) (U : State) : Prop := args = ([.ref (OB 1)] : List Value).toArray ∧ zs_K own tx k n OB sz U U.heap
theorem zs_blind {own tx : String} {k n : Nat} {OB : Nat → Nat} {sz : Nat} : FrameBlind (zs_P own tx k n OB sz) := fun a U gf mk h => ⟨h.1, zs_K_p.2.2 U (U.calling gf mk a) _ rfl h.2⟩
abbrev zs_yC : MethodName := ⟨"java/lang/String", "coder", "()B"⟩
abbrev zs_yL : MethodName := ⟨"java/lang/String", "length", "()I"⟩
def zs_w : List Cond := [Cond.fieldLink "java/lang/String" 38 "java/lang/String" "COMPACT_STRINGS" "Z", Cond.fieldLink "java/lang/String" 15 "java/lang/String" "coder" "B", Cond.fieldLink "java/lang/String" 9 "java/lang/String" "value" "[B", Cond.methodLink "java/lang/String" 335 zs_yC, Cond.instanceMethod zs_yC, Cond.selects "java/lang/String" zs_yC zs_yC, Cond.initialized "java/lang/String", Cond.code zs_yC prog_18_method_152_code 1 (some .byte), Cond.code zs_yL prog_18_method_54_code 1 (some .int), Cond.instanceMethod zs_yL, Cond.selects "java/lang/String" zs_yL zs_yL]
section ZSTR
variable {TBL : List Cond} {own tx : String} {k n : Nat} {OB : Nat → Nat} {sz : Nat}
theorem zs_coder (l : Launch) (hw : ∀ w ∈ zs_w, w ∈ TBL) : Met l zs_yC (Cond.code zs_yC prog_18_method_152_code 1 (some .byte) :: TBL) { frames := 0, cells := 0, slots := 0, locals := 0 } (zs_P own tx k n OB sz) (QcRead 0) 0 0 (fun _ => False) := by
  refine Met.ofW (cc := prog_18_method_152_code) (maxL := 1) (ret := some .byte) rfl rfl ?_
  intro p e s m args below meth c s₁ B hml hPre
  obtain ⟨rfl, adV, f, k1, k2, k3, k4, k5, k6⟩ := hPre
  have hts : ∀ w ∈ (Cond.code zs_yC prog_18_method_152_code 1 (some .byte) :: TBL), w.before ([.ref (OB 1)] : List Value).toArray s = true := atoms_spec (ws := Cond.code zs_yC prog_18_method_152_code 1 (some .byte) :: TBL) B.pre
  have hw2 : ∀ w ∈ zs_w, w.before ([.ref (OB 1)] : List Value).toArray s = true := fun w h => hts w (List.mem_cons_of_mem _ (hw w h))
  have hown : s.vm.findClass "java/lang/String" = some m.cls := findClass_of_methodNamed B.named
  rw [lg_entry_eq]
  have hS : va_S (fun q => sz ≤ q) s.heap s.heap [] := va_S.rf
  have hl := (lv_entry [.ref (OB 1)] (n := 1) (show (lg_sl [Value.ref (OB 1)]).length ≤ 1 from Nat.le_refl 1)).2.2 (0, .ref (OB 1)) (by simp [lv_args])
  refine va_gets B.exec B.bytes k6 hS hown (hw2 _ (List.mem_of_getElem? (i := 0) rfl)) (fun x h => h) (index := 38) (by decide +kernel) ?_
  refine lv_if_eq B.exec B.bytes (tgt := 13) (off := 10) (by decide +kernel) (by decide) (fun h => absurd h (by decide)) (fun _ => ?_)
  refine lv_aload_n B.exec B.bytes (k := 0) (i := 0) (by decide +kernel) rfl hl ?_
  refine vk_getf B.exec B.bytes k3 hS hown (hw2 _ (List.mem_of_getElem? (i := 1) rfl)) (fun x h => h) (index := 15) (by decide +kernel) ?_
  refine lv_goto B.exec B.bytes (off := 4) (tgt := 14) (by decide +kernel) (by decide) ?_
  exact W.zret B.exec B.bytes B.returns rfl (fun t ht _ => ⟨rfl, ht⟩) (fun q hq => absurd hq List.not_mem_nil) (by decide +kernel) B.notSynchronized
theorem zs_length (l : Launch) (hw : ∀ w ∈ zs_w, w ∈ TBL) (hgd : ∀ w ∈ TBL, z_gw w = true) (hn : n < 2147483648) : Met l zs_yL (Cond.code zs_yL prog_18_method_54_code 1 (some .int) :: TBL) { frames := 1, cells := 0, slots := 0, locals := 20 } (zs_P own tx k n OB sz) (QcRead (Int32.ofNat n)) 0 0 (fun _ => False) := by
  refine Met.ofW (cc := prog_18_method_54_code) (maxL := 1) (ret := some .int) rfl rfl ?_
  intro p e s m args below meth c s₁ B hml hPre
  obtain ⟨rfl, hK⟩ := hPre
  have hK0 := hK
  obtain ⟨adV, f, k1, k2, k3, k4, k5, k6⟩ := hK
  have hts : ∀ w ∈ (Cond.code zs_yL prog_18_method_54_code 1 (some .int) :: TBL), w.before ([.ref (OB 1)] : List Value).toArray s = true := atoms_spec (ws := Cond.code zs_yL prog_18_method_54_code 1 (some .int) :: TBL) B.pre
  have hw2 : ∀ w ∈ zs_w, w.before ([.ref (OB 1)] : List Value).toArray s = true := fun w h => hts w (List.mem_cons_of_mem _ (hw w h))
  have hown : s.vm.findClass "java/lang/String" = some m.cls := findClass_of_methodNamed B.named
  rw [lg_entry_eq]
  have hS : va_S (fun q => sz ≤ q) s.heap s.heap [] := va_S.rf
  have hlv := lv_entry [.ref (OB 1)] (n := 1) (show (lg_sl [Value.ref (OB 1)]).length ≤ 1 from Nat.le_refl 1)
  have hl := hlv.2.2 (0, .ref (OB 1)) (by simp [lv_args])
  have hwsG : ∀ w ∈ (Cond.code zs_yC prog_18_method_152_code 1 (some .byte) :: TBL), ∀ (a' : Array Value) (U : State), s.WarmedH U.vm → w.before a' U = true := by
    refine z_pay hts (fun w h => ?_)
    rcases List.mem_cons.mp h with rfl | h
    · exact ⟨List.mem_cons_of_mem _ (hw _ (List.mem_of_getElem? (i := 7) rfl)), rfl⟩
    · exact ⟨List.mem_cons_of_mem _ h, hgd w h⟩
  refine lv_aload_n B.exec B.bytes (k := 0) (i := 0) (by decide +kernel) rfl hl ?_
  refine vk_getf B.exec B.bytes k4 hS hown (hw2 _ (List.mem_of_getElem? (i := 2) rfl)) (fun x h => h) (index := 9) (by decide +kernel) ?_
  refine va_tlen B.exec B.bytes k5 hS rfl (by decide +kernel) ?_
  have d1 : decode prog_18_method_54_code 6 = .ok (.invokevirtual 335, 3) := by decide +kernel
  have d2 : decode prog_18_method_54_code 9 = .ok (.ishr, 1) := by decide +kernel
  have d3 : decode prog_18_method_54_code 10 = .ok (.ireturn, 1) := by decide +kernel
  refine lv_aload_n B.exec B.bytes (k := 0) (i := 0) (by decide +kernel) rfl hl ?_
  refine W.callR (W.runV (b := OB 1) (As := []) (rest := [.int (Int32.ofNat n)]) (C := "java/lang/String") (n := 0) (index := 335) ⟨B.exec, B.bytes, hml, hown, hts⟩ (zs_coder (own := own) (tx := tx) (k := k) (n := n) (OB := OB) (sz := sz) l hw) ⟨⟨rfl, rfl, Nat.le_refl _, Nat.le_refl _, hwsG, List.mem_cons_self, hw2 _ (List.mem_of_getElem? (i := 7) rfl), hw2 _ (List.mem_of_getElem? (i := 6) rfl), by decide, fun sig h => ?_, hw2 _ (List.mem_of_getElem? (i := 3) rfl)⟩, hw2 _ (List.mem_of_getElem? (i := 4) rfl), hw2 _ (List.mem_of_getElem? (i := 5) rfl)⟩ ⟨zs_blind, ?_, fun U hU hW => ⟨rfl, ?_⟩⟩ rfl rfl ?_ rfl ?_ d1 ⟨Nat.le_refl _, Nat.le_refl _⟩) ?_
  · have : (parseMethodDescriptor "()B").map (fun d => d.parameters.length) = some 0 := by decide +kernel
    rw [h] at this
    exact (Option.some.inj this).symm
  · obtain ⟨cell, y1, y2, y3, -⟩ := k2
    exact ⟨cell, y1, y2, y3⟩
  · rw [hU]
    exact zs_K_p.1 s U s.heap hK0 hW
  · exact hlv.1
  · show 2 * 0 + _ ≤ 8
    exact (by decide : 2 * 0 + 1 ≤ 8)
  · refine lv_ishr (pc := 9) B.exec B.bytes d2 ?_
    have e0 : (Int32.ofNat n) >>> ((0 : Int32) &&& 31) = Int32.ofNat n := sc_shr0 hn
    rw [e0]
    exact W.iret B.exec B.bytes B.returns (fun t ht _ => ⟨rfl, ht⟩) (fun q hq => absurd hq List.not_mem_nil) d3 B.notSynchronized
/-- the hook: a constant and its length, two instructions -/
def zs_hk (g : zSig) (p0 : Nat) (n : Int) : zHk := fun pc st => cond (Nat.beq pc p0) (match z_csum st (z_S st) with
  | some k => cond (Nat.ble k 8 && (Nat.ble (z_C st).1 (g_mk g).1 && Nat.ble (z_C st).2 (g_mk g).2)) ((z_iconst st n).map (fun s => [(p0 + 5, s)])) none
  | none => none) none
theorem zs_hk_ok {cl : List vw_C} {TY : List zTy} {PHI : List (List Nat)} {mm : zM} {g : zSig} {p0 i : Nat} {KXf : (Nat → Nat) → Nat → State → Heap → Prop} (hKX : ∀ OB sz s H, KXf OB sz s H → zs_K mm.1.cls tx k n OB sz s H) (hw : ∀ w ∈ zs_w, w ∈ TBL) (hgd : ∀ w ∈ TBL, z_gw w = true) (hn : n < 2147483648) (hlink : Cond.methodLink mm.1.cls i zs_yL ∈ TBL) (hd1 : decode mm.2.1 p0 = .ok (.ldc k, 2)) (hd2 : decode mm.2.1 (p0 + 2) = .ok (.invokevirtual i, 3)) (hR : 2 ≤ (g_rm g).1 ∧ 40 ≤ (g_rm g).2) : z_hok TBL cl TY PHI KXf mm g (zs_hk g p0 (n : Int)) := by
  intro p l e s m args below meth c Q OB D DA sz raw T0 H0 env0 good hg hx hb hml hD hsz hX pc st L hL hall
  unfold zs_hk at hL
  cases hpc : Nat.beq pc p0 with
  | false => rw [hpc] at hL; cases hL
  | true =>
    rw [hpc] at hL
    have hpc := z_beq hpc
    subst hpc
    have hL : (match z_csum st (z_S st) with
      | some k => cond (Nat.ble k 8 && (Nat.ble (z_C st).1 (g_mk g).1 && Nat.ble (z_C st).2 (g_mk g).2)) ((z_iconst st (n : Int)).map (fun s => [(pc + 5, s)])) none
      | none => none) = some L := hL
    split at hL
    · rename_i kk hkk
      cases hk8 : (Nat.ble kk 8 && (Nat.ble (z_C st).1 (g_mk g).1 && Nat.ble (z_C st).2 (g_mk g).2)) with
      | false => rw [hk8] at hL; cases hL
      | true =>
        rw [hk8] at hL
        simp only [Bool.and_eq_true] at hk8
        obtain ⟨hk8, hk9, hk10⟩ := hk8
        have hL : (z_iconst st (n : Int)).map (fun s => [(pc + 5, s)]) = some L := hL
        cases hz : z_iconst st (n : Int) with
        | none => rw [hz] at hL; cases hL
        | some st' =>
          rw [hz] at hL
          cases hL
          have k0 := hall (pc + 5, st') (List.mem_singleton.mpr rfl)
          have k0 : good (pc + 5) st' := k0
          obtain ⟨hts, hown, hK, htys⟩ := hD
          have hw2 : ∀ w ∈ zs_w, w.before args s = true := fun w h => hts w (List.mem_cons_of_mem _ (hw w h))
          refine (hg _ _).mpr fun T H locs env ls stk hs => ?_
          have hmem := hs.2.2.2.2.2.2.2.2.2
          have hcat := z_csum_ok hkk hs hs.2.2.2.1
          have hXH : zs_K mm.1.cls tx k n OB sz s H := zs_K_p.2.1 s H0 H (hKX _ _ _ _ hX) hmem.2.2.2.2.1 hmem.2.2.2.2.2.1
          have hXH0 := hXH
          obtain ⟨adV, f, k1, k2, k3, k4, k5, k6⟩ := hXH
          have hwsG : ∀ w ∈ (Cond.code zs_yL prog_18_method_54_code 1 (some .int) :: TBL), ∀ (a' : Array Value) (U : State), s.WarmedH U.vm → w.before a' U = true := by
            refine z_pay hts (fun w h => ?_)
            rcases List.mem_cons.mp h with rfl | h
            · exact ⟨List.mem_cons_of_mem _ (hw _ (List.mem_of_getElem? (i := 8) rfl)), rfl⟩
            · exact ⟨List.mem_cons_of_mem _ h, hgd w h⟩
          refine va_ldcS hx hb hown k1 hd1 ?_
          obtain ⟨lv, z1, _⟩ := hs.2.2.1
          have hlsz : ls.size = mm.2.2.1 := z1.1
          refine W.callR (W.runV (b := OB 1) (As := []) (rest := stk) (C := "java/lang/String") (n := 0) (index := i) ⟨hx, hb, hml, hown, hts⟩ (zs_length (own := mm.1.cls) (tx := tx) (k := k) (n := n) (OB := OB) (sz := sz) l hw hgd hn) ⟨⟨rfl, rfl, hR.1, hR.2, hwsG, List.mem_cons_self, hw2 _ (List.mem_of_getElem? (i := 8) rfl), hw2 _ (List.mem_of_getElem? (i := 6) rfl), by decide, fun sig h => ?_, hts _ (List.mem_cons_of_mem _ hlink)⟩, hw2 _ (List.mem_of_getElem? (i := 9) rfl), hw2 _ (List.mem_of_getElem? (i := 10) rfl)⟩ ⟨zs_blind, ?_, fun U hU hW => ⟨rfl, ?_⟩⟩ rfl rfl hlsz rfl ?_ hd2 ⟨?_, ?_⟩) ?_
          · have : (parseMethodDescriptor "()I").map (fun d => d.parameters.length) = some 0 := by decide +kernel
            rw [h] at this
            exact (Option.some.inj this).symm
          · obtain ⟨cell, y1, y2, y3, -⟩ := k2
            exact ⟨cell, y1, y2, y3⟩
          · rw [hU]
            exact zs_K_p.1 s U H hXH0 hW
          · exact lv_room (by rw [hcat]; exact Nat.le_of_ble_eq_true hk8)
          · exact Nat.le_of_ble_eq_true hk9
          · exact Nat.le_of_ble_eq_true hk10
          · obtain ⟨h1, rfl⟩ := z_cond hz
            have hv : (Int32.ofNat n).toInt = (n : Int) := Int32.toInt_ofNat_of_lt (by omega)
            have := (hg _ _).mp k0 T H locs _ ls _ (z_sat_psh hs hs.2.2.2.1 (c := .inl ((n : Int), (n : Int))) (v := .int (Int32.ofNat n)) ⟨_, rfl, by rw [z_in, hv]; exact ⟨Int.le_refl _, Int.le_refl _⟩⟩ (fun q hq => absurd hq List.not_mem_nil))
            exact this
    · cases hL
end ZSTR
end
section
/-! What the tables say of a class's places, by places in the tables. -/
def zk_at (TB : List Cond) (i : Nat) (w : Cond) : Bool := decide (TB[i]? = some w) && z_gw w
theorem zk_at_ok {TB : List Cond} {i : Nat} {w : Cond} (h : zk_at TB i w = true) : w ∈ TB.filter z_gw := by
  unfold zk_at at h
  rw [Bool.and_eq_true] at h
  exact List.mem_filter.mpr ⟨List.mem_of_getElem? (of_decide_eq_true h.1), h.2⟩
def zk_F (TB : List Cond) (cl : List vw_C) (own : String) : List (Nat × Nat × Nat) → List Nat → Bool
  | [], _ => true
  | q :: L, i :: P => (match cl[q.2.1]? with
    | some r => Nat.blt q.2.2 r.2.2 && zk_at TB i (Cond.fieldLink own q.1 (r.2.1 q.2.2).1 (r.2.1 q.2.2).2.1 (r.2.1 q.2.2).2.2.1)
    | none => false) && zk_F TB cl own L P
  | _ :: _, [] => false
def zk_C (TB : List Cond) (cl : List vw_C) (own : String) : List (Nat × Nat) → List (Nat × Nat × Nat) → Bool
  | [], _ => true
  | q :: L, i :: P => (match cl[q.2]? with
    | some r => zk_at TB i.1 (Cond.classLink own q.1 r.1) && zk_at TB i.2.1 (Cond.instantiable r.1 r.2.2) && zk_at TB i.2.2 (Cond.initialized r.1)
    | none => false) && zk_C TB cl own L P
  | _ :: _, [] => false
def zk_T (TB : List Cond) (own : String) : List (Nat × Int32) → List Nat → Bool
  | [], _ => true
  | q :: L, i :: P => zk_at TB i (Cond.constant own q.1 q.2) && zk_T TB own L P
  | _ :: _, [] => false
def zk_nest (own : String) (i : Nat) (y : MethodName) : Option Cond → Bool
  | some (.methodLinkNest o j z _) => decide (o = own) && Nat.beq j i && decide (z = y)
  | _ => false
/-- one link: its own word; for a method: instanceMethod or static; selects -/
def zk_L1 (TB : List Cond) (cl : List vw_C) (MT : List zM) (own : String) (q : Nat × Nat × Nat) (i : Nat × Nat × Nat) : Bool := match q.2.1 with
  | 9 => zk_at TB i.1 (Cond.methodLink own q.1 Lib.objectInit)
  | 8 => zk_at TB i.1 (Cond.methodLink own q.1 arraycopyName)
  | k => (match MT[q.2.2]? with
    | some mm => (match k with
      | 0 => zk_at TB i.1 (Cond.methodLink own q.1 mm.1) && zk_at TB i.2.1 (Cond.instanceMethod mm.1) && zk_at TB i.2.2 (Cond.selects mm.1.cls mm.1 mm.1) && (match cl[mm.2.2.2.2.2]? with
        | some r => decide (r.1 = mm.1.cls)
        | none => false)
      | 1 => zk_at TB i.1 (Cond.methodLink own q.1 mm.1) && zk_at TB i.2.1 (Cond.static mm.1)
      | 2 => zk_at TB i.1 (Cond.methodLink own q.1 mm.1) && zk_at TB i.2.1 (Cond.instanceMethod mm.1) && decide (mm.1.name = "<init>") && mm.2.2.2.1.isNone
      | 3 => zk_nest own q.1 mm.1 (TB[i.1]?) && zk_at TB i.2.1 (Cond.instanceMethod mm.1) && decide (mm.1.name = "<init>") && mm.2.2.2.1.isNone
      | 4 => zk_nest own q.1 mm.1 (TB[i.1]?) && zk_at TB i.2.1 (Cond.static mm.1)
      | _ => false)
    | none => false)
def zk_L (TB : List Cond) (cl : List vw_C) (MT : List zM) (own : String) : List (Nat × Nat × Nat) → List (Nat × Nat × Nat) → Bool
  | [], _ => true
  | q :: L, i :: P => zk_L1 TB cl MT own q i && zk_L TB cl MT own L P
  | _ :: _, [] => false
/-- a method: code, initialized -/
def zk_ok1 (TB : List Cond) (mm : zM) : Prop := Cond.code mm.1 mm.2.1 mm.2.2.1 mm.2.2.2.1 ∈ TB.filter z_gw ∧ Cond.initialized mm.1.cls ∈ TB.filter z_gw ∧ (mm.1.cls ≠ "java/lang/invoke/MethodHandle" ∧ mm.1.cls ≠ "java/lang/invoke/VarHandle") ∧ (parseMethodDescriptor mm.1.desc).map (fun d => d.parameters.length) = some mm.2.2.2.2.1
/-- a class: its fields' words, types, names -/
def zk_cl (TB : List Cond) (FT : Nat → Nat → FieldType) (ci : Nat) (r : vw_C) (P : List Nat) : Bool :=
  (List.range r.2.2).all (fun k => (match P[k]? with
    | some i => zk_at TB i (u_lay r.1 r.2.1 k)
    | none => false) && decide (parseFieldDescriptor (r.2.1 k).2.2.1 = some (FT ci k)) && decide ((r.2.1 k).1 = r.1)) &&
  (List.range r.2.2).all (fun a => (List.range r.2.2).all (fun b => Nat.ble a b || decide ((r.2.1 a).2.1 ≠ (r.2.1 b).2.1)))
def zk_cls (TB : List Cond) (FT : Nat → Nat → FieldType) : Nat → List vw_C → List (List Nat) → Bool
  | _, [], _ => true
  | ci, r :: L, p :: P => zk_cl TB FT ci r p && zk_cls TB FT (ci + 1) L P
  | _, _ :: _, [] => false
section ZWORDS
variable {TB Ts : List Cond} {cl : List vw_C} {FT : Nat → Nat → FieldType} {MT : List zM} {own : String}
theorem zk_F_ok : ∀ {L : List (Nat × Nat × Nat)} {P : List Nat}, zk_F TB cl own L P = true → ∀ q ∈ L, ∃ r, cl[q.2.1]? = some r ∧ q.2.2 < r.2.2 ∧ Cond.fieldLink own q.1 (r.2.1 q.2.2).1 (r.2.1 q.2.2).2.1 (r.2.1 q.2.2).2.2.1 ∈ TB.filter z_gw
  | [], _, _, q, hq => absurd hq List.not_mem_nil
  | x :: L, [], h, q, hq => by cases h
  | x :: L, i :: P, h, q, hq => by
    unfold zk_F at h
    rw [Bool.and_eq_true] at h
    rcases List.mem_cons.mp hq with rfl | hq
    · have h1 := h.1
      split at h1
      · rename_i r hr
        rw [Bool.and_eq_true] at h1
        exact ⟨r, hr, z_blt h1.1, zk_at_ok h1.2⟩
      · cases h1
    · exact zk_F_ok h.2 q hq
theorem zk_C_ok : ∀ {L : List (Nat × Nat)} {P : List (Nat × Nat × Nat)}, zk_C TB cl own L P = true → ∀ q ∈ L, ∃ r, cl[q.2]? = some r ∧ Cond.classLink own q.1 r.1 ∈ TB.filter z_gw ∧ Cond.instantiable r.1 r.2.2 ∈ TB.filter z_gw ∧ Cond.initialized r.1 ∈ TB.filter z_gw
  | [], _, _, q, hq => absurd hq List.not_mem_nil
  | x :: L, [], h, q, hq => by cases h
  | x :: L, i :: P, h, q, hq => by
    unfold zk_C at h
    rw [Bool.and_eq_true] at h
    rcases List.mem_cons.mp hq with rfl | hq
    · have h1 := h.1
      split at h1
      · rename_i r hr
        simp only [Bool.and_eq_true] at h1
        exact ⟨r, hr, zk_at_ok h1.1.1, zk_at_ok h1.1.2, zk_at_ok h1.2⟩
      · cases h1
    · exact zk_C_ok h.2 q hq
theorem zk_T_ok : ∀ {L : List (Nat × Int32)} {P : List Nat}, zk_T TB own L P = true → ∀ q ∈ L, Cond.constant own q.1 q.2 ∈ TB.filter z_gw
  | [], _, _, q, hq => absurd hq List.not_mem_nil
  | x :: L, [], h, q, hq => by cases h
  | x :: L, i :: P, h, q, hq => by
    unfold zk_T at h
    rw [Bool.and_eq_true] at h
    rcases List.mem_cons.mp hq with rfl | hq
    · exact zk_at_ok h.1
    · exact zk_T_ok h.2 q hq
theorem zk_nest_ok {i : Nat} {y : MethodName} {o : Option Cond} (h : zk_nest own i y o = true) : ∃ host, o = some (Cond.methodLinkNest own i y host) := by
  unfold zk_nest at h
  split at h
  · rename_i o2 j z host
    simp only [Bool.and_eq_true] at h
    have h1 := of_decide_eq_true h.1.1
    have h2 := z_beq h.1.2
    have h3 := of_decide_eq_true h.2
    subst h1; subst h2; subst h3
    exact ⟨host, rfl⟩
  · cases h
theorem zk_L1_ok {q i : Nat × Nat × Nat} (hT : ∀ w ∈ TB.filter z_gw, w ∈ Ts) (hM : ∀ mm ∈ MT, zk_ok1 TB mm)
    (h9 : Cond.instanceMethod Lib.objectInit ∈ TB.filter z_gw ∧ Cond.code Lib.objectInit ⟨#[0xb1]⟩ 1 none ∈ TB.filter z_gw) (h8 : Cond.native arraycopyName ∈ TB.filter z_gw ∧ Cond.static arraycopyName ∈ TB.filter z_gw ∧ Cond.initialized "java/lang/System" ∈ TB.filter z_gw) (h : zk_L1 TB cl MT own q i = true) :
    (q.2.1 = 9 → Cond.methodLink own q.1 Lib.objectInit ∈ Ts ∧ Cond.instanceMethod Lib.objectInit ∈ Ts ∧ Cond.code Lib.objectInit ⟨#[0xb1]⟩ 1 none ∈ Ts) ∧ (q.2.1 = 8 → Cond.methodLink own q.1 arraycopyName ∈ Ts ∧ Cond.native arraycopyName ∈ Ts ∧ Cond.static arraycopyName ∈ Ts ∧ Cond.initialized "java/lang/System" ∈ Ts) ∧ (q.2.1 ≤ 4 → ∃ mm, MT[q.2.2]? = some mm ∧ z_lk Ts own q.2.1 q.1 mm.1 mm.2.1 mm.2.2.1 mm.2.2.2.1 mm.2.2.2.2.1 ∧ (q.2.1 = 0 → ∃ r, cl[mm.2.2.2.2.2]? = some r ∧ r.1 = mm.1.cls)) := by
  obtain ⟨a, k, j⟩ := q
  have key : ∀ k2 : Nat, k2 = k → k2 ≤ 4 → ∃ mm, MT[j]? = some mm ∧ z_lk Ts own k2 a mm.1 mm.2.1 mm.2.2.1 mm.2.2.2.1 mm.2.2.2.2.1 ∧ (k2 = 0 → ∃ r, cl[mm.2.2.2.2.2]? = some r ∧ r.1 = mm.1.cls) := by
    intro k2 hk hk3
    subst hk
    unfold zk_L1 at h
    have hne9 : k2 ≠ 9 := by omega
    have hne8 : k2 ≠ 8 := by omega
    split at h
    · rename_i h9; exact absurd h9 hne9
    · rename_i h8; exact absurd h8 hne8
    · split at h
      · rename_i mm hmm
        have hmm : MT[j]? = some mm := hmm
        obtain ⟨m1, m2, m3, m4⟩ := hM mm (List.mem_of_getElem? hmm)
        refine ⟨mm, hmm, ?_, ?_⟩
        · refine ⟨hT _ m1, hT _ m2, m3, m4, ?_⟩
          match k2, hk3, h with
          | 0, _, h =>
            simp only [Bool.and_eq_true] at h
            exact ⟨hT _ (zk_at_ok h.1.1.1), hT _ (zk_at_ok h.1.1.2), hT _ (zk_at_ok h.1.2)⟩
          | 1, _, h =>
            simp only [Bool.and_eq_true] at h
            exact ⟨hT _ (zk_at_ok h.1), hT _ (zk_at_ok h.2)⟩
          | 2, _, h =>
            simp only [Bool.and_eq_true] at h
            exact ⟨hT _ (zk_at_ok h.1.1.1), hT _ (zk_at_ok h.1.1.2), of_decide_eq_true h.1.2, Option.isNone_iff_eq_none.mp h.2⟩
          | 3, _, h =>
            simp only [Bool.and_eq_true] at h
            obtain ⟨host, hh⟩ := zk_nest_ok h.1.1.1
            exact ⟨⟨host, hT _ (List.mem_filter.mpr ⟨List.mem_of_getElem? hh, rfl⟩)⟩, hT _ (zk_at_ok h.1.1.2), of_decide_eq_true h.1.2, Option.isNone_iff_eq_none.mp h.2⟩
          | 4, _, h =>
            simp only [Bool.and_eq_true] at h
            obtain ⟨host, hh⟩ := zk_nest_ok h.1
            exact ⟨⟨host, hT _ (List.mem_filter.mpr ⟨List.mem_of_getElem? hh, rfl⟩)⟩, hT _ (zk_at_ok h.2)⟩
        · intro h0
          subst h0
          have h : (zk_at TB i.1 (Cond.methodLink own a mm.1) && zk_at TB i.2.1 (Cond.instanceMethod mm.1) && zk_at TB i.2.2 (Cond.selects mm.1.cls mm.1 mm.1) && (match cl[mm.2.2.2.2.2]? with
            | some r => decide (r.1 = mm.1.cls)
            | none => false)) = true := h
          rw [Bool.and_eq_true] at h
          have h2 := h.2
          split at h2
          · rename_i r hr
            exact ⟨r, hr, of_decide_eq_true h2⟩
          · cases h2
      · cases h
  refine ⟨fun e => ?_, fun e => ?_, fun e => key k rfl e⟩
  · have e : k = 9 := e
    subst e
    exact ⟨hT _ (zk_at_ok h), hT _ h9.1, hT _ h9.2⟩
  · have e : k = 8 := e
    subst e
    exact ⟨hT _ (zk_at_ok h), hT _ h8.1, hT _ h8.2.1, hT _ h8.2.2⟩
theorem zk_L_ok {P2 : Nat × Nat × Nat → Prop} (hp : ∀ q i, zk_L1 TB cl MT own q i = true → P2 q) : ∀ {L P : List (Nat × Nat × Nat)}, zk_L TB cl MT own L P = true → ∀ q ∈ L, P2 q
  | [], _, _, q, hq => absurd hq List.not_mem_nil
  | x :: L, [], h, q, hq => by cases h
  | x :: L, i :: P, h, q, hq => by
    unfold zk_L at h
    rw [Bool.and_eq_true] at h
    rcases List.mem_cons.mp hq with rfl | hq
    · exact hp _ _ h.1
    · exact zk_L_ok hp h.2 q hq
theorem zk_cls_ok : ∀ {L : List vw_C} {ci : Nat} {P : List (List Nat)}, zk_cls TB FT ci L P = true → ∀ k r, L[k]? = some r → ∃ p, zk_cl TB FT (ci + k) r p = true
  | [], _, _, _, k, r, h => by simp at h
  | x :: L, ci, [], h, k, r, hk => by cases h
  | x :: L, ci, p :: P, h, k, r, hk => by
    unfold zk_cls at h
    rw [Bool.and_eq_true] at h
    cases k with
    | zero =>
      have : x = r := by simpa using hk
      subst this
      exact ⟨p, h.1⟩
    | succ k =>
      obtain ⟨p2, h2⟩ := zk_cls_ok h.2 k r (by simpa using hk)
      exact ⟨p2, by rw [show ci + (k + 1) = ci + 1 + k by omega]; exact h2⟩
theorem zk_ks {PC : List (List Nat)} (hc : zk_cls TB FT 0 cl PC = true) (hm : ∀ mm ∈ MT, zk_ok1 TB mm) (h9 : Cond.instanceMethod Lib.objectInit ∈ TB.filter z_gw ∧ Cond.code Lib.objectInit ⟨#[0xb1]⟩ 1 none ∈ TB.filter z_gw) (h8 : Cond.native arraycopyName ∈ TB.filter z_gw ∧ Cond.static arraycopyName ∈ TB.filter z_gw ∧ Cond.initialized "java/lang/System" ∈ TB.filter z_gw) (ha : ∀ k, k < 3 → Cond.arrayClass (z_ek k) ∈ TB.filter z_gw)
    {KF KL : List (Nat × Nat × Nat)} {KC : List (Nat × Nat)} {KT : List (Nat × Int32)} {pF pT : List Nat} {pC pL : List (Nat × Nat × Nat)} (hF : zk_F TB cl own KF pF = true) (hC : zk_C TB cl own KC pC = true) (hL : zk_L TB cl MT own KL pL = true) (hT : zk_T TB own KT pT = true)
    (Ts : List Cond) (hTs : ∀ w ∈ TB.filter z_gw, w ∈ Ts) (CA NA : List (Nat × Nat)) (AC : List (Nat × Nat × Nat × Int)) (IN : Option Nat) (hin : ∀ j r, IN = some j → cl[j]? = some r → r.1 = own) : z_KS Ts (TB.filter z_gw) cl FT own MT (KF, KC, KL, KT, CA, NA, AC, IN) := by
  refine ⟨⟨fun ci r hr => ?_, fun q hq => ?_⟩, fun q hq => ?_, zk_L_ok (P2 := fun q => (q.2.1 = 9 → _) ∧ (q.2.1 = 8 → _) ∧ (q.2.1 ≤ 4 → _)) (fun q i h => zk_L1_ok hTs hm h9 h8 h) hL, fun q hq => hTs _ (zk_T_ok hT q hq), fun k hk => hTs _ (ha k hk), fun w hw => ⟨hTs _ hw, (List.mem_filter.mp hw).2⟩, fun j r h1 h2 => hin j r h1 h2⟩
  · obtain ⟨p, hp⟩ := zk_cls_ok hc ci r hr
    rw [Nat.zero_add] at hp
    unfold zk_cl at hp
    rw [Bool.and_eq_true] at hp
    obtain ⟨p1, p2⟩ := hp
    have one : ∀ k, k < r.2.2 → u_lay r.1 r.2.1 k ∈ TB.filter z_gw ∧ parseFieldDescriptor (r.2.1 k).2.2.1 = some (FT ci k) ∧ (r.2.1 k).1 = r.1 := by
      intro k hk
      have h := List.all_eq_true.mp p1 k (List.mem_range.mpr hk)
      simp only [Bool.and_eq_true] at h
      refine ⟨?_, of_decide_eq_true h.1.2, of_decide_eq_true h.2⟩
      have h1 := h.1.1
      split at h1
      · exact zk_at_ok h1
      · cases h1
    have lt : ∀ a b, b < a → a < r.2.2 → (r.2.1 a).2.1 ≠ (r.2.1 b).2.1 := by
      intro a b hab ha2
      have h := List.all_eq_true.mp (List.all_eq_true.mp p2 a (List.mem_range.mpr ha2)) b (List.mem_range.mpr (by omega))
      rw [Bool.or_eq_true] at h
      rcases h with h | h
      · have := Nat.le_of_ble_eq_true h
        omega
      · exact of_decide_eq_true h
    refine ⟨fun w hw => ?_, fun k hk => (one k hk).2.1, fun a ha2 b hb hab => ?_, fun k hk => (one k hk).2.2⟩
    · obtain ⟨k, hk, rfl⟩ := List.mem_map.mp hw
      exact hTs _ (one k (List.mem_range.mp hk)).1
    · rcases Nat.lt_or_ge b a with h | h
      · exact lt a b h ha2
      · exact fun e => lt b a (by omega) hb e.symm
  · obtain ⟨r, h1, h2, h3⟩ := zk_F_ok hF q hq
    exact ⟨r, h1, h2, hTs _ h3⟩
  · obtain ⟨r, h1, h2, h3, h4⟩ := zk_C_ok hC q hq
    exact ⟨r, h1, hTs _ h2, hTs _ h3, hTs _ h4⟩
/-- a contract of SG, by its method's place -/
theorem z_lnk {TBL : List Cond} {TY : List zTy} {PHI : List (List Nat)} {KXf : (Nat → Nat) → Nat → State → Heap → Prop} {i : Nat} {mm : zM} {g : zSig} (hm : MT[i]? = some mm) (h : z_OK TBL cl FT TY PHI KXf mm.1 mm.2.1 mm.2.2.1 mm.2.2.2.1 g) : ∀ m2, MT[(i, g).1]? = some m2 → z_OK TBL cl FT TY PHI KXf m2.1 m2.2.1 m2.2.2.1 m2.2.2.2.1 (i, g).2 := by
  intro m2 h2
  have h2 : MT[i]? = some m2 := h2
  rw [hm] at h2
  cases h2
  exact h
theorem z_fil {P2 : Nat × zSig → Prop} {SG : List (Nat × zSig)} (CA : List (Nat × Nat)) (h : ∀ g ∈ SG, P2 g) : ∀ g ∈ CA.filterMap (fun a => SG[a.2]?), P2 g := by
  intro g hg
  obtain ⟨a, _, ha⟩ := List.mem_filterMap.mp hg
  exact h g (List.mem_of_getElem? ha)
end ZWORDS
end
section
/-! A contract with its ends told as one: the answer alone. -/
def z_rle : Option zV → Option zV → Bool
  | none, none => true
  | some c, some d => z_le c d
  | _, _ => false
abbrev z_wk (g : zSig) (r : Option zV) : zSig := (g_prm g, g_raw g, g_loc g, [([], r, [], [])], g_pur g, g_mk g, g_rm g, g_ph g)
theorem z_weak {TBL : List Cond} {cl : List vw_C} {FT : Nat → Nat → FieldType} {TY : List zTy} {PHI : List (List Nat)} {KXf : (Nat → Nat) → Nat → State → Heap → Prop} {y : MethodName} {bytes : ByteArray} {maxL : Nat} {ret : Option FieldType} {g : zSig} {r : Option zV} (hr : (g_pst g).all (fun P => z_rle P.2.1 r) = true) (h : z_OK TBL cl FT TY PHI KXf y bytes maxL ret g) : z_OK TBL cl FT TY PHI KXf y bytes maxL ret (z_wk g r) := by
  intro l OB D DA sz T
  refine MetFree.mono (h l OB D DA sz T) (fun _ _ h => h) (fun _ _ _ _ _ h => h) (fun a s o s' _ hq => ⟨?_, hq.2⟩)
  obtain ⟨vals, v, T', a1, a2, a3, a4, a5, a6, a7, a8, a9, P, hP, c1, c2, c3, c4⟩ := hq.1
  refine ⟨vals, v, T', a1, a2, a3, a4, a5, a6, a7, a8, a9, ([], r, [], []), List.mem_singleton.mpr rfl, fun q hq => absurd hq List.not_mem_nil, ?_, fun q hq => absurd hq List.not_mem_nil, fun i q h _ hh => by cases hh⟩
  have h1 := List.all_eq_true.mp hr P hP
  cases hp : P.2.1 with
  | none =>
    rw [hp] at h1 c2
    cases r with
    | none => exact c2
    | some d => cases h1
  | some c =>
    rw [hp] at h1 c2
    cases r with
    | none => cases h1
    | some d =>
      cases v with
      | none => exact c2
      | some x => exact z_le_ok h1 c2
end
section
/-! The law's body over many calls: an induction over i; the state at the loop's head has the symbols script, L, i, x, m; behind them six ghosts: the ints of this call. -/
def zm_ex (R : List (Nat × Nat × Int)) (d e : Nat) : Option Int := match z_lbs R 6 d e, z_lbs R 6 e d with
  | some a, some b => cond (z_ile a (-b) && z_ile (-b) a) (some a) none
  | _, _ => none
def zm_rd (cc : ByteArray) : zHk := fun pc st => match decode cc pc with
  | .ok (.arraylength, 1) => (match z_S st with
    | d :: S => (match z_get (z_V st) d with
      | some (.inr (.inr 1)) => some [(pc + 1, z_stS st (1 :: S))]
      | _ => none)
    | _ => none)
  | .ok (.iaload, 1) => (match z_S st with
    | j :: d :: S => (match z_get (z_V st) d, zm_ex (z_R st) j 2, z_isi st j with
      | some (.inr (.inr 1)), some c, true => cond (z_ile 0 c && z_ile c 5 && (match z_lbs (z_R st) 6 1 j with
        | some k => z_ile 1 k
        | none => false)) (some [(pc + 1, z_stS st ((5 + c.toNat) :: S))]) none
      | _, _, _ => none)
    | _ => none)
  | _ => none
def zm_fit (hd : zS) (iv : zS → Nat → Bool) (cur : zS) : Bool := match z_loc (z_L cur) 0, z_loc (z_L cur) 1, z_loc (z_L cur) 2, z_loc (z_L cur) 3 with
  | some d0, some d1, some d2, some d3 => Nat.beq d0 0 && iv cur d3 && z_sub2 cur hd [0, 1, d3, d1, d2]
  | _, _, _, _ => false
/-- i is 6 more than symbol 2 -/
def zm_iv6 (cur : zS) (d : Nat) : Bool := z_isi cur d && (match zm_ex (z_R cur) d 2 with
  | some k => z_ile 6 k && z_ile k 6
  | none => false)
def zm_iv0 (cur : zS) (d : Nat) : Bool := match z_get (z_V cur) d with
  | some (.inl r) => z_ile 0 r.1 && z_ile r.2 0
  | _ => false
def zm_hk (cc : ByteArray) (hd : zS) (hpc : Nat) (iv : zS → Nat → Bool) : zHk := fun pc st => cond (Nat.beq pc hpc && zm_fit hd iv st) (some []) (zm_rd cc pc st)
/-- what the guards are -/
def zm_at (b L i : Nat) (xs : Nat → Int32) (env : List Value) : Prop := env[0]? = some (.ref b) ∧ env[1]? = some (.int (Int32.ofNat L)) ∧ env[2]? = some (.int (Int32.ofNat i)) ∧ ∀ c, c < 6 → env[5 + c]? = some (.int (xs (i + c)))
section ZLOOP
variable {p : Program} {l : Launch} {e : Env} {R : Room} {s : State} {m : MethodId} {args : Array Value} {below : List Frame} {meth : Method} {c : Code} {Q : State → Prop} {cc : ByteArray} {pc : Nat}
variable {OB : Nat → Nat} {D : va_G} {DA : Nat → ClassId} {cl : List vw_C} {FT : Nat → Nat → FieldType} {TY : List zTy} {PHI : List (List Nat)} {sz : Nat} {T0 : zTp} {env0 : List Value} {nL : Nat} {st : zS} {good : Nat → zS → Prop}
variable {b L i : Nat} {xs : Nat → Int32}
theorem zm_ex_ok {Rr : List (Nat × Nat × Int)} {env : List Value} (hr : z_fr env Rr) {d f : Nat} {k : Int} {vd ve : Int32} (h : zm_ex Rr d f = some k) (h1 : env[d]? = some (.int vd)) (h2 : env[f]? = some (.int ve)) : vd.toInt = ve.toInt + k := by
  unfold zm_ex at h
  split at h
  · rename_i a b' ha hb
    obtain ⟨hc, rfl⟩ := z_cond h
    rw [Bool.and_eq_true] at hc
    have c1 := z_ile_ok hc.1
    have c2 := z_ile_ok hc.2
    obtain ⟨v1, g1, g2⟩ := z_lbs_ok hr ha h1
    obtain ⟨v2, g3, g4⟩ := z_lbs_ok hr hb h2
    rw [h2] at g1
    cases g1
    rw [h1] at g3
    cases g3
    omega
  · cases h
theorem zm_rd_ok (hg : z_Good p l e R s m args below meth c Q OB D DA cl TY PHI sz none false T0 s.heap env0 nL good) (hx : p.tables.exec = Jvm.exec) (hb : c.code = cc) (hX : va_X b L xs s s.heap) (hbl : b < s.heap.size) (hsz : sz = s.heap.size) (hL : L < 2147483648) (hi : i < 2147483648) (hOB : OB 0 = b) (he : zm_at b L i xs env0)
    {Ls : List (Nat × zS)} (h : zm_rd cc pc st = some Ls) (hall : ∀ q ∈ Ls, good q.1 q.2) : good pc st := by
  have hbA : ¬ sz ≤ b := by omega
  have h0 : ∀ {env : List Value} {k : Nat} {v : Value}, (∃ w, env = env0 ++ w) → env0[k]? = some v → env[k]? = some v := by
    intro env k v hw hv
    obtain ⟨w, rfl⟩ := hw
    exact z_app hv
  unfold zm_rd at h
  split at h
  · rename_i hd
    split at h
    · rename_i d S hS
      split at h
      · rename_i hV
        cases h
        have k0 : good (pc + 1) (z_stS st (1 :: S)) := hall _ (List.mem_singleton.mpr rfl)
        refine (hg _ _).mpr fun T H locs env ls stk hs => ?_
        obtain ⟨v, kk, rfl, e1, hk⟩ := z_stk_cons hS hs.2.2.2.1
        obtain ⟨v2, e2, e3⟩ := z_get_ok hs.2.2.2.2.1 hV
        rw [e1] at e2
        cases e2
        have e3 : v = .ref (OB 0) := e3
        rw [hOB] at e3
        subst e3
        have hmem := hs.2.2.2.2.2.2.2.2.2
        refine va_slen hx hb hX hbl hbA hmem.2.2.2.2 hd ?_
        exact (hg _ _).mp k0 T H locs env ls _ (z_sat_stS hs ⟨_, kk, rfl, h0 hs.2.1 he.2.1, hk⟩)
      · cases h
    · cases h
  · rename_i hd
    split at h
    · rename_i j d S hS
      split at h
      · rename_i k hV hE hI
        cases hc : (z_ile 0 k && z_ile k 5 && (match z_lbs (z_R st) 6 1 j with
          | some k => z_ile 1 k
          | none => false)) with
        | false => rw [hc] at h; cases h
        | true =>
          rw [hc] at h
          cases h
          simp only [Bool.and_eq_true] at hc
          obtain ⟨⟨c1, c2⟩, c4⟩ := hc
          have c1 := z_ile_ok c1
          have c2 := z_ile_ok c2
          have k0 : good (pc + 1) (z_stS st ((5 + k.toNat) :: S)) := hall _ (List.mem_singleton.mpr rfl)
          refine (hg _ _).mpr fun T H locs env ls stk hs => ?_
          obtain ⟨vj, kk, rfl, e1, hk⟩ := z_stk_cons hS hs.2.2.2.1
          obtain ⟨vd, kk2, rfl, f1, hk2⟩ := hk
          obtain ⟨y, e2⟩ := z_isi_ok hI hs
          rw [e1] at e2
          cases e2
          obtain ⟨v3, f2, f3⟩ := z_get_ok hs.2.2.2.2.1 hV
          rw [f1] at f2
          cases f2
          have f3 : vd = .ref (OB 0) := f3
          rw [hOB] at f3
          subst f3
          have hmem := hs.2.2.2.2.2.2.2.2.2
          have hLv : env[1]? = some (.int (Int32.ofNat L)) := h0 hs.2.1 he.2.1
          have hiv : env[2]? = some (.int (Int32.ofNat i)) := h0 hs.2.1 he.2.2.1
          have hLi : (Int32.ofNat L).toInt = (L : Int) := Int32.toInt_ofNat_of_lt (by omega)
          have hii : (Int32.ofNat i).toInt = (i : Int) := Int32.toInt_ofNat_of_lt (by omega)
          have hy := zm_ex_ok hs.2.2.2.2.2.2.2.1 hE e1 hiv
          split at c4
          · rename_i k4 hk4
            have c4 := z_ile_ok c4
            obtain ⟨vx, g1, g2⟩ := z_lbs_ok hs.2.2.2.2.2.2.2.1 hk4 hLv
            rw [e1] at g1
            cases g1
            have hcl : y.toNatClampNeg = i + k.toNat := by show y.toInt.toNat = _; omega
            have hin : vp_in y L := by
              intro hh
              rcases hh with hh | hh
              · have := Int32.lt_iff_toInt_lt.mp hh
                have e0 : (0 : Int32).toInt = 0 := rfl
                omega
              · rw [hcl] at hh
                omega
            refine va_sld hx hb hX hbl hbA hmem.2.2.2.2 hin hd ?_
            rw [hcl]
            exact (hg _ _).mp k0 T H locs env ls _ (z_sat_stS hs ⟨_, kk2, rfl, h0 hs.2.1 (he.2.2.2 k.toNat (by omega)), hk2⟩)
          · cases c4
      · cases h
    · cases h
  · cases h
/-- the head is reached again -/
theorem zm_fit_ok {hd : zS} {hpc i' : Nat} {iv : zS → Nat → Bool} (hn : z_n hd = 5) (hg : z_Good p l e R s m args below meth c Q OB D DA cl TY PHI sz none false T0 s.heap env0 nL good) (hb0 : env0[0]? = some (.ref b)) (hb1 : env0[1]? = some (.int (Int32.ofNat L)))
    (hiv : ∀ T H locs env ls stk d, z_sat OB D DA cl TY PHI sz none false T0 s.heap env0 nL st T H locs env ls stk → iv st d = true → env[d]? = some (.int (Int32.ofNat i')))
    (hIH : ∀ T H locs env ls stk, env[0]? = some (.ref b) → env[1]? = some (.int (Int32.ofNat L)) → env[2]? = some (.int (Int32.ofNat i')) → z_sat OB D DA cl TY PHI sz none false T0 s.heap env nL hd T H locs env ls stk → W p l e R s m args below meth c H locs (z_C hd).1 (z_C hd).2 Q (F0 m hpc ls stk))
    (h : zm_fit hd iv st = true) : good hpc st := by
  refine (hg _ _).mpr fun T H locs env ls stk hs => ?_
  unfold zm_fit at h
  split at h
  · rename_i d0 d1 d2 d3 h0 h1 h2 h3
    simp only [Bool.and_eq_true] at h
    obtain ⟨⟨-, hi3⟩, hsub⟩ := h
    obtain ⟨c1, c2, env3, c3, c4⟩ := z_sub2_ok hsub hs
    obtain ⟨w, hw⟩ := hs.2.1
    have hh : ∀ {k : Nat} {v : Value}, env0[k]? = some v → env[k]? = some v := fun hv => by rw [hw]; exact z_app hv
    refine W.widen c1 c2 (hIH T H locs env3 ls stk ?_ ?_ ?_ c4)
    · rw [c3 0 0 rfl]; exact hh hb0
    · rw [c3 1 1 rfl]; exact hh hb1
    · rw [c3 2 d3 rfl]; exact hiv T H locs env ls stk d3 hs hi3
  · cases h
end ZLOOP
end
section
/-! The loop's induction, and the start. -/
def zl_fin (mc ms : Nat) (st : zS) : Bool := (match z_S st with
  | [r] => (match z_get (z_V st) r with
    | some (.inl a) => z_ile 1 a.1 && z_ile a.2 1
    | _ => false)
  | _ => false) && Nat.ble (z_C st).1 mc && Nat.ble (z_C st).2 ms
def zm_hB (hd : zS) : zS := (z_L hd, z_S hd, 11, [(5, .inl z_full), (6, .inl z_full), (7, .inl z_full), (8, .inl z_full), (9, .inl z_full), (10, .inl z_full)] ++ z_V hd, z_F hd, z_E hd, z_R hd, z_X hd, z_C hd, z_ph hd)
def zm_stp (TY : List zTy) (PHI : List (List Nat)) (cl : List vw_C) (FT : Nat → Nat → FieldType) (MT : List zM) (SG : List (Nat × zSig)) (PHS : List Nat) (R : Room) (nL mc ms : Nat) (cc : ByteArray) (K : zK) (hk : zHk) : Nat → zS → Option (List (Nat × zS)) := z_hst hk (z_stp TY PHI cl FT MT SG [] PHS R false nL K cc (fun _ => false) (zl_fin mc ms))
def zm_hs (hd : zS) (hpc : Nat) : zHk := fun pc st => cond (Nat.beq pc hpc && zm_fit hd zm_iv0 st) (some []) none
def zm_chk0 (TY : List zTy) (PHI : List (List Nat)) (cl : List vw_C) (FT : Nat → Nat → FieldType) (MT : List zM) (SG : List (Nat × zSig)) (PHS : List Nat) (R : Room) (nL mc ms : Nat) (cc : ByteArray) (ce : zCe) (hd : zS) (hpc : Nat) : Bool := z_run (zm_stp TY PHI cl FT MT SG PHS R nL mc ms cc ce.1 (zm_hk cc hd hpc zm_iv6)) (z_cut ce.2.1 11 none) ce.2.2 hpc (zm_hB hd)
def zm_chkP (TY : List zTy) (PHI : List (List Nat)) (cl : List vw_C) (FT : Nat → Nat → FieldType) (MT : List zM) (SG : List (Nat × zSig)) (PHS : List Nat) (R : Room) (nL mc ms : Nat) (cc : ByteArray) (ce : zCe) (hd : zS) (hpc : Nat) (P : List zCu) : Bool := P.all (fun k => k.2.2.2.2.all (fun q => Nat.blt q.1 (z_n k.2.1)) && z_run (zm_stp TY PHI cl FT MT SG PHS R nL mc ms cc ce.1 (zm_hk cc hd hpc zm_iv6)) (z_cut ce.2.1 11 (some k.2.2.2)) ce.2.2 k.1 k.2.1)
def zm_st0 (N : Int) : zS := ([(0, 0)], [], 2, [(0, .inr (.inr 1)), (1, .inl (0, N))], [], [], [], [], (0, 0), 0)
def zm_chkS (TY : List zTy) (PHI : List (List Nat)) (cl : List vw_C) (FT : Nat → Nat → FieldType) (MT : List zM) (SG : List (Nat × zSig)) (PHS : List Nat) (R : Room) (nL mc ms : Nat) (cc : ByteArray) (ce : zCe) (hd : zS) (hpc : Nat) (N : Int) : Bool := z_run (zm_stp TY PHI cl FT MT SG PHS R nL mc ms cc ce.1 (zm_hs hd hpc)) (z_cut [] 2 none) ce.2.2 0 (zm_st0 N)
section ZLOOP2
variable {p : Program} {l : Launch} {e : Env} {R : Room} {s : State} {m : MethodId} {args : Array Value} {below : List Frame} {meth : Method} {c : Code} {Q : State → Prop} {cc : ByteArray} {pc : Nat}
variable {OB : Nat → Nat} {D : va_G} {DA : Nat → ClassId} {cl : List vw_C} {FT : Nat → Nat → FieldType} {TY : List zTy} {PHI : List (List Nat)} {sz : Nat} {T0 : zTp} {env0 : List Value} {nL : Nat} {st : zS} {KXf : (Nat → Nat) → Nat → State → Heap → Prop} {good : Nat → zS → Prop}
variable {TBL : List Cond} {own : String} {MT : List zM} {SG : List (Nat × zSig)} {PHS : List Nat} {ce : zCe} {mc ms : Nat} {b L N : Nat} {xs : Nat → Int32} {hd : zS} {hpc : Nat}
theorem zm_chkP_app {A B : List zCu} (h1 : zm_chkP TY PHI cl FT MT SG PHS R nL mc ms cc ce hd hpc A = true) (h2 : zm_chkP TY PHI cl FT MT SG PHS R nL mc ms cc ce hd hpc B = true) : zm_chkP TY PHI cl FT MT SG PHS R nL mc ms cc ce hd hpc (A ++ B) = true := by
  show (A ++ B).all _ = true
  rw [List.all_append, Bool.and_eq_true]
  exact ⟨h1, h2⟩
theorem zl_fin_ok (hg : z_Good p l e R s m args below meth c Q OB D DA cl TY PHI sz none false T0 s.heap env0 nL good) (hsz : sz = s.heap.size) (hend : ∀ pc H ls, decode cc pc = .ok (.ireturn, 1) → W p l e R s m args below meth c H [] mc ms Q (F0 m pc ls [.int 1])) (hd : decode cc pc = .ok (.ireturn, 1)) (h : zl_fin mc ms st = true) : good pc st := by
  refine (hg _ _).mpr fun T H locs env ls stk hs => ?_
  unfold zl_fin at h
  simp only [Bool.and_eq_true] at h
  obtain ⟨⟨h1, h2⟩, h3⟩ := h
  split at h1
  · rename_i r hS
    split at h1
    · rename_i a ha
      rw [Bool.and_eq_true] at h1
      have a1 := z_ile_ok h1.1
      have a2 := z_ile_ok h1.2
      obtain ⟨v, k, rfl, e1, hk⟩ := z_stk_cons hS hs.2.2.2.1
      have hk : k = [] := hk
      subst hk
      obtain ⟨v2, e2, x, rfl, hx⟩ := z_get_ok hs.2.2.2.2.1 ha
      rw [e1] at e2
      cases e2
      have hx1 : x = 1 := Int32.toInt.inj (by have := hx.1; have := hx.2; have e0 : (1 : Int32).toInt = 1 := rfl; omega)
      subst hx1
      have hmem := hs.2.2.2.2.2.2.2.2.2
      have := W.forget (locs := []) (L := locs) (fun q hq => by have := hmem.2.2.2.2.2.2 q hq; omega) (hend pc H ls hd)
      exact W.widen (Nat.le_of_ble_eq_true h2) (Nat.le_of_ble_eq_true h3) this
    · cases h1
  · cases h1
theorem zm_iv6_ok {i : Nat} (hi : i < 2147483000) (hs : ∀ T H locs env ls stk, z_sat OB D DA cl TY PHI sz none false T0 s.heap env0 nL st T H locs env ls stk → env[2]? = some (.int (Int32.ofNat i))) : ∀ T H locs env ls stk d, z_sat OB D DA cl TY PHI sz none false T0 s.heap env0 nL st T H locs env ls stk → zm_iv6 st d = true → env[d]? = some (.int (Int32.ofNat (i + 6))) := by
  intro T H locs env ls stk d h hv
  unfold zm_iv6 at hv
  rw [Bool.and_eq_true] at hv
  obtain ⟨h1, h2⟩ := hv
  obtain ⟨x, hx⟩ := z_isi_ok h1 h
  split at h2
  · rename_i k hk
    rw [Bool.and_eq_true] at h2
    have k1 := z_ile_ok h2.1
    have k2 := z_ile_ok h2.2
    have := zm_ex_ok h.2.2.2.2.2.2.2.1 hk hx (hs T H locs env ls stk h)
    have e1 : (Int32.ofNat i).toInt = (i : Int) := Int32.toInt_ofNat_of_lt (by omega)
    have e2 : (Int32.ofNat (i + 6)).toInt = ((i + 6 : Nat) : Int) := Int32.toInt_ofNat_of_lt (by omega)
    rw [hx]
    have : x = Int32.ofNat (i + 6) := Int32.toInt_inj.mp (by rw [e2]; omega)
    rw [this]
  · cases h2
/-- one call after the other -/
theorem zm_loop (hx : p.tables.exec = Jvm.exec) (hb : c.code = cc) (hml : c.maxLocals = nL) (hX : va_X b L xs s s.heap) (hbl : b < s.heap.size) (hN : N ≤ 100000) (hL : L ≤ N) (hOB : OB 0 = b) (hD : z_Dy s m args TBL own D cl DA (z_tys DA)) (hXp : z_KXp s.heap.size (KXf OB s.heap.size)) (hKX : KXf OB s.heap.size s s.heap) (hKS : z_KS TBL TBL cl FT own MT ce.1) (hin : k_IN ce.1 = none) (hPH : ∀ a ∈ PHS, z_phok TY PHI a = true)
    (hok : ∀ g ∈ (k_CA ce.1).filterMap (fun a => SG[a.2]?), ∀ m2, MT[g.1]? = some m2 → z_OK TBL cl FT TY PHI KXf m2.1 m2.2.1 m2.2.2.1 m2.2.2.2.1 g.2) (hend : ∀ pc H ls, decode cc pc = .ok (.ireturn, 1) → W p l e R s m args below meth c H [] mc ms Q (F0 m pc ls [.int 1]))
    (hn : z_n hd = 5) (hV : (2, Sum.inl ((0 : Int), (N : Int))) ∈ z_V hd) (h0 : zm_chk0 TY PHI cl FT MT SG PHS R nL mc ms cc ce hd hpc = true) (hP : zm_chkP TY PHI cl FT MT SG PHS R nL mc ms cc ce hd hpc ce.2.1 = true) :
    ∀ k i, i < 2147482000 → N + 1 - i ≤ k → ∀ T H locs env ls stk, env[0]? = some (.ref b) → env[1]? = some (.int (Int32.ofNat L)) → env[2]? = some (.int (Int32.ofNat i)) → z_sat OB D DA cl TY PHI s.heap.size none false (fun _ => none) s.heap env nL hd T H locs env ls stk → W p l e R s m args below meth c H locs (z_C hd).1 (z_C hd).2 Q (F0 m hpc ls stk) := by
  intro k
  induction k with
  | zero =>
    intro i hi hk T H locs env ls stk e0 e1 e2 hs
    obtain ⟨v, g1, x, rfl, g2⟩ := hs.2.2.2.2.1 _ hV
    have g1 : env[2]? = some (.int x) := g1
    rw [e2] at g1
    cases g1
    have ei : (Int32.ofNat i).toInt = (i : Int) := Int32.toInt_ofNat_of_lt (by omega)
    have := g2.2
    rw [ei] at this
    have : (i : Int) ≤ (N : Int) := this
    omega
  | succ k ih =>
    intro i hi hk T H locs env ls stk e0 e1 e2 hs
    obtain ⟨v, g1, x, rfl, g2⟩ := hs.2.2.2.2.1 _ hV
    have g1 : env[2]? = some (.int x) := g1
    rw [e2] at g1
    cases g1
    have ei : (Int32.ofNat i).toInt = (i : Int) := Int32.toInt_ofNat_of_lt (by omega)
    have hiN : (i : Int) ≤ (N : Int) := by have := g2.2; rw [ei] at this; exact this
    have hlen : env.length = 5 := hs.1.trans hn
    have gv : ∀ j, j < 6 → (env ++ [Value.int (xs i), .int (xs (i + 1)), .int (xs (i + 2)), .int (xs (i + 3)), .int (xs (i + 4)), .int (xs (i + 5))])[5 + j]? = some (.int (xs (i + j))) := by
      intro j hj
      rw [List.getElem?_append_right (by omega), hlen, Nat.add_sub_cancel_left]
      match j, hj with
      | 0, _ => rfl
      | 1, _ => rfl
      | 2, _ => rfl
      | 3, _ => rfl
      | 4, _ => rfl
      | 5, _ => rfl
    have full : ∀ x : Int32, z_v OB T (.inl z_full) (.int x) := fun x => ⟨x, rfl, z_in_full x⟩
    have hs2 : z_sat OB D DA cl TY PHI s.heap.size none false (fun _ => none) s.heap (env ++ [Value.int (xs i), .int (xs (i + 1)), .int (xs (i + 2)), .int (xs (i + 3)), .int (xs (i + 4)), .int (xs (i + 5))]) nL (zm_hB hd) T H locs (env ++ [Value.int (xs i), .int (xs (i + 1)), .int (xs (i + 2)), .int (xs (i + 3)), .int (xs (i + 4)), .int (xs (i + 5))]) ls stk := by
      refine ⟨by rw [List.length_append, hlen]; rfl, ⟨[], by rw [List.append_nil]⟩, z_ls_app hs.2.2.1, z_stk_app hs.2.2.2.1, fun q hq => ?_, z_ff_app hs.2.2.2.2.2.1, z_fe_app hs.2.2.2.2.2.2.1, z_fr_app hs.2.2.2.2.2.2.2.1, z_fx_app hs.2.2.2.2.2.2.2.2.1, hs.2.2.2.2.2.2.2.2.2⟩
      rcases List.mem_append.mp hq with hq | hq
      · rcases List.mem_cons.mp hq with rfl | hq
        · exact ⟨_, gv 0 (by omega), full _⟩
        rcases List.mem_cons.mp hq with rfl | hq
        · exact ⟨_, gv 1 (by omega), full _⟩
        rcases List.mem_cons.mp hq with rfl | hq
        · exact ⟨_, gv 2 (by omega), full _⟩
        rcases List.mem_cons.mp hq with rfl | hq
        · exact ⟨_, gv 3 (by omega), full _⟩
        rcases List.mem_cons.mp hq with rfl | hq
        · exact ⟨_, gv 4 (by omega), full _⟩
        rcases List.mem_cons.mp hq with rfl | hq
        · exact ⟨_, gv 5 (by omega), full _⟩
        cases hq
      · exact z_fv_app hs.2.2.2.2.1 q hq
    have hat : zm_at b L i xs (env ++ [Value.int (xs i), .int (xs (i + 1)), .int (xs (i + 2)), .int (xs (i + 3)), .int (xs (i + 4)), .int (xs (i + 5))]) := ⟨z_app e0, z_app e1, z_app e2, gv⟩
    refine z_runs (ng := 11) (ends := zm_at b L i xs) (fun env1 env2 he hgh => ?_) (fun env1 pc st Ls he hL2 hall => ?_) hP h0 hat (by rw [List.length_append, hlen]; exact Nat.le_refl _) hs2
    · exact ⟨(hgh 0 (by omega)).trans he.1, (hgh 1 (by omega)).trans he.2.1, (hgh 2 (by omega)).trans he.2.2.1, fun j hj => (hgh (5 + j) (by omega)).trans (he.2.2.2 j hj)⟩
    · have hgg : z_Good p l e R s m args below meth c Q OB D DA cl TY PHI s.heap.size none false (fun _ => none) s.heap env1 nL (fun pc st => ∀ T2 H2 locs2 env2 ls2 stk2, z_sat OB D DA cl TY PHI s.heap.size none false (fun _ => none) s.heap env1 nL st T2 H2 locs2 env2 ls2 stk2 → W p l e R s m args below meth c H2 locs2 (z_C st).1 (z_C st).2 Q (F0 m pc ls2 stk2)) := fun _ _ => Iff.rfl
      unfold zm_stp z_hst at hL2
      split at hL2
      · rename_i L3 hL3
        cases hL2
        unfold zm_hk at hL3
        cases hc : (Nat.beq pc hpc && zm_fit hd zm_iv6 st) with
        | true =>
          rw [Bool.and_eq_true] at hc
          have hpc2 := z_beq hc.1
          subst hpc2
          exact zm_fit_ok (i' := i + 6) hn hgg he.1 he.2.1 (zm_iv6_ok (by omega) (fun T H locs env ls stk h => by obtain ⟨w, hw⟩ := h.2.1; rw [hw]; exact z_app he.2.2.1)) (ih (i + 6) (by omega) (by omega)) hc.2
        | false =>
          rw [hc] at hL3
          exact zm_rd_ok hgg hx hb hX hbl rfl (by omega) (by omega) hOB he hL3 hall
      · exact z_stp_ok hgg hx hb hml hD (Nat.le_refl _) hXp hKX hKS (fun j hj => by rw [hin] at hj; cases hj) hPH hok (fun pc st hd hf => by cases hf) (fun pc st hd hf => zl_fin_ok hgg rfl hend hd hf) hL2 hall
end ZLOOP2
end
section
/-! The law from its entry: the objects are made, then the loop. -/
section ZSTART
variable {p : Program} {l : Launch} {e : Env} {R : Room} {s : State} {m : MethodId} {args : Array Value} {below : List Frame} {meth : Method} {c : Code} {Q : State → Prop} {cc : ByteArray}
variable {OB : Nat → Nat} {D : va_G} {DA : Nat → ClassId} {cl : List vw_C} {FT : Nat → Nat → FieldType} {TY : List zTy} {PHI : List (List Nat)} {nL : Nat} {KXf : (Nat → Nat) → Nat → State → Heap → Prop}
variable {TBL : List Cond} {own : String} {MT : List zM} {SG : List (Nat × zSig)} {PHS : List Nat} {ce : zCe} {mc ms : Nat} {b L N : Nat} {xs : Nat → Int32} {hd : zS} {hpc : Nat}
theorem zm_law (hx : p.tables.exec = Jvm.exec) (hb : c.code = cc) (hml : c.maxLocals = nL) (hX : va_X b L xs s s.heap) (hbl : b < s.heap.size) (hN : N ≤ 100000) (hL : L ≤ N) (hOB : OB 0 = b) (hD : z_Dy s m args TBL own D cl DA (z_tys DA)) (hXp : z_KXp s.heap.size (KXf OB s.heap.size)) (hKX : KXf OB s.heap.size s s.heap) (hKS : z_KS TBL TBL cl FT own MT ce.1) (hin : k_IN ce.1 = none) (hPH : ∀ a ∈ PHS, z_phok TY PHI a = true)
    (hok : ∀ g ∈ (k_CA ce.1).filterMap (fun a => SG[a.2]?), ∀ m2, MT[g.1]? = some m2 → z_OK TBL cl FT TY PHI KXf m2.1 m2.2.1 m2.2.2.1 m2.2.2.2.1 g.2) (hend : ∀ pc H ls, decode cc pc = .ok (.ireturn, 1) → W p l e R s m args below meth c H [] mc ms Q (F0 m pc ls [.int 1]))
    (hn : z_n hd = 5) (hV : (2, Sum.inl ((0 : Int), (N : Int))) ∈ z_V hd) (hS : zm_chkS TY PHI cl FT MT SG PHS R nL mc ms cc ce hd hpc (N : Int) = true) (h0 : zm_chk0 TY PHI cl FT MT SG PHS R nL mc ms cc ce hd hpc = true) (hP : zm_chkP TY PHI cl FT MT SG PHS R nL mc ms cc ce hd hpc ce.2.1 = true)
    {ls : Array Slot} (hls : z_ls nL ls [.ref b, .int (Int32.ofNat L)] [(0, 0)]) : W p l e R s m args below meth c s.heap [] 0 0 Q (F0 m 0 ls []) := by
  have hLi : (Int32.ofNat L).toInt = (L : Int) := Int32.toInt_ofNat_of_lt (by omega)
  have hsat : z_sat OB D DA cl TY PHI s.heap.size none false (fun _ => none) s.heap [.ref b, .int (Int32.ofNat L)] nL (zm_st0 (N : Int)) (fun _ => none) s.heap [] [.ref b, .int (Int32.ofNat L)] ls [] := by
    refine ⟨rfl, ⟨[], by rw [List.append_nil]⟩, hls, rfl, fun q hq => ?_, fun q hq => absurd hq List.not_mem_nil, fun q hq => absurd hq List.not_mem_nil, fun q hq => absurd hq List.not_mem_nil, trivial, ⟨fun a t ht => absurd ht (by simp), fun a t ci fl ha => absurd ha (by simp), fun a a' t t' ci fl fl' ha => absurd ha (by simp)⟩, ⟨fun a t ht => absurd ht (by simp), fun h => absurd h (by simp), z_fin_rf⟩, fun a t ht => absurd ht (by simp), fun q _ _ _ => ⟨rfl, rfl⟩, va_S.rf⟩
    rcases List.mem_cons.mp hq with rfl | hq
    · exact ⟨_, rfl, by show _ = Value.ref (OB 0); rw [hOB]⟩
    rcases List.mem_cons.mp hq with rfl | hq
    · exact ⟨_, rfl, _, rfl, by rw [z_in, hLi]; exact ⟨by show (0 : Int) ≤ _; omega, by show _ ≤ (N : Int); omega⟩⟩
    cases hq
  refine z_runs (CU := []) (ng := 2) (ends := fun env : List Value => env[0]? = some (Value.ref b) ∧ env[1]? = some (Value.int (Int32.ofNat L))) (fun env1 env2 he hgh => ⟨(hgh 0 (by omega)).trans he.1, (hgh 1 (by omega)).trans he.2⟩) (fun env1 pc st Ls he hL2 hall => ?_) (stp := zm_stp TY PHI cl FT MT SG PHS R nL mc ms cc ce.1 (zm_hs hd hpc)) (fuel := ce.2.2) rfl hS ⟨rfl, rfl⟩ (Nat.le_refl _) hsat
  have hgg : z_Good p l e R s m args below meth c Q OB D DA cl TY PHI s.heap.size none false (fun _ => none) s.heap env1 nL (fun pc st => ∀ T2 H2 locs2 env2 ls2 stk2, z_sat OB D DA cl TY PHI s.heap.size none false (fun _ => none) s.heap env1 nL st T2 H2 locs2 env2 ls2 stk2 → W p l e R s m args below meth c H2 locs2 (z_C st).1 (z_C st).2 Q (F0 m pc ls2 stk2)) := fun _ _ => Iff.rfl
  unfold zm_stp z_hst at hL2
  split at hL2
  · rename_i L3 hL3
    cases hL2
    unfold zm_hs at hL3
    obtain ⟨hc, -⟩ := z_cond hL3
    rw [Bool.and_eq_true] at hc
    have hpc2 := z_beq hc.1
    subst hpc2
    refine zm_fit_ok (i' := 0) hn hgg he.1 he.2 (fun T H locs env ls stk d h hv => ?_) (zm_loop hx hb hml hX hbl hN hL hOB hD hXp hKX hKS hin hPH hok hend hn hV h0 hP (N + 1) 0 (by omega) (by omega)) hc.2
    unfold zm_iv0 at hv
    split at hv
    · rename_i r hr
      rw [Bool.and_eq_true] at hv
      obtain ⟨v, g1, x, rfl, g2⟩ := z_get_ok h.2.2.2.2.1 hr
      have a1 := z_ile_ok hv.1
      have a2 := z_ile_ok hv.2
      have b1 := g2.1
      have b2 := g2.2
      have : x = 0 := z_int0 (by omega)
      rw [g1, this]
      rfl
    · cases hv
  · exact z_stp_ok hgg hx hb hml hD (Nat.le_refl _) hXp hKX hKS (fun j hj => by rw [hin] at hj; cases hj) hPH hok (fun pc st hd hf => by cases hf) (fun pc st hd hf => zl_fin_ok hgg rfl hend hd hf) hL2 hall
end ZSTART
end
section
/-! String constants over named cells: the string is the name 902, its bytes are the name 903. -/
def zs_by (j : Nat) : Int32 := ([104, 117, 105, 109, 114, 99, 107, 110, 115, 101, 120, 121, 100] : List Int32).getD j 0
def zs_K3 (own tx : String) (k n : Nat) (OB : Nat → Nat) (sz : Nat) (U : State) (H : Heap) : Prop := ∃ (f : Nat → Value), vk_R own k tx (OB 2) U ∧ va_O "java/lang/String" (OB 2) (fun q => sz ≤ q) U H ∧ va_OF "java/lang/String" "coder" "B" (.int 0) (OB 2) (fun q => sz ≤ q) U H ∧ va_OF "java/lang/String" "value" "[B" (.ref (OB 3)) (OB 2) (fun q => sz ≤ q) U H ∧ va_T .byte (OB 3) n f (fun q => sz ≤ q) U H ∧ va_Z "java/lang/String" "COMPACT_STRINGS" "Z" (.int 1) (fun q => sz ≤ q) U H ∧ ∀ j, j < n → f j = .int (zs_by j)
theorem zs_K3_p {own tx : String} {k n : Nat} {OB : Nat → Nat} {sz : Nat} : z_KXp sz (zs_K3 own tx k n OB sz) := by
  refine ⟨fun s U H h hW => ?_, fun s H H1 h _ hq => ?_, fun u U H hvm h => ?_⟩
  · obtain ⟨f, k1, k2, k3, k4, k5, k6, k7⟩ := h
    exact ⟨f, vk_R.warm hW k1, va_O.moved hW.alike k2, va_OF.moved hW.alike k3, va_OF.moved hW.alike k4, va_T.moved hW.alike k5, va_Z.moved hW.alike k6, k7⟩
  · obtain ⟨f, k1, k2, k3, k4, k5, k6, k7⟩ := h
    exact ⟨f, k1, k2.kept hq, k3.kept hq, k4.kept hq, k5.kept hq, k6.kept hq, k7⟩
  · obtain ⟨f, k1, k2, k3, k4, k5, k6, k7⟩ := h
    have ha : u.vm.Alike U.vm := by rw [hvm]; exact Vm.Alike.refl _
    exact ⟨f, vk_R.same hvm k1, va_O.moved ha k2, va_OF.moved ha k3, va_OF.moved ha k4, va_T.moved ha k5, va_Z.moved ha k6, k7⟩
def zs_KX (own tx : String) (k n : Nat) (own2 : String) (k2 : Nat) (OB : Nat → Nat) (sz : Nat) (U : State) (H : Heap) : Prop := zs_K own tx k n OB sz U H ∧ zs_K3 own2 tx k2 n OB sz U H
theorem zs_KX_p {own own2 tx : String} {k k2 n : Nat} {OB : Nat → Nat} {sz : Nat} : z_KXp sz (zs_KX own tx k n own2 k2 OB sz) :=
  ⟨fun s U H h hW => ⟨zs_K_p.1 s U H h.1 hW, zs_K3_p.1 s U H h.2 hW⟩, fun s H H1 h h1 hq => ⟨zs_K_p.2.1 s H H1 h.1 h1 hq, zs_K3_p.2.1 s H H1 h.2 h1 hq⟩, fun u U H hvm h => ⟨zs_K_p.2.2 u U H hvm h.1, zs_K3_p.2.2 u U H hvm h.2⟩⟩
end
section
/-! The tables' words. -/
/-- a private method of a class that the tables say can be made, by its rows of tables_1 -/
def lw_okq (q : MethodName × Nat) : Prop := (q.1.cls ≠ "java/lang/invoke/MethodHandle" ∧ q.1.cls ≠ "java/lang/invoke/VarHandle") ∧ Cond.instantiable q.1.cls q.2 ∈ tables_1 ∧ Cond.privateMethod q.1 ∈ tables_1 ∧ Cond.instanceMethod q.1 ∈ tables_1
theorem lw_p0 : lw_okq (⟨"StarTales$LawReader", "readClause", "()V"⟩, 5) := ⟨⟨by decide +kernel, by decide +kernel⟩, List.mem_of_getElem? (i := 207) (by decide +kernel), List.mem_of_getElem? (i := 592) (by decide +kernel), List.mem_of_getElem? (i := 593) (by decide +kernel)⟩
theorem lw_p1 : lw_okq (⟨"StarTales$LawReader", "peek", "()I"⟩, 5) := ⟨⟨by decide +kernel, by decide +kernel⟩, List.mem_of_getElem? (i := 207) (by decide +kernel), List.mem_of_getElem? (i := 596) (by decide +kernel), List.mem_of_getElem? (i := 597) (by decide +kernel)⟩
theorem lw_p2 : lw_okq (⟨"StarTales$LawReader", "fail", "(I)V"⟩, 5) := ⟨⟨by decide +kernel, by decide +kernel⟩, List.mem_of_getElem? (i := 207) (by decide +kernel), List.mem_of_getElem? (i := 600) (by decide +kernel), List.mem_of_getElem? (i := 601) (by decide +kernel)⟩
theorem lw_p3 : lw_okq (⟨"StarTales$LawReader", "readSum", "(I)V"⟩, 5) := ⟨⟨by decide +kernel, by decide +kernel⟩, List.mem_of_getElem? (i := 207) (by decide +kernel), List.mem_of_getElem? (i := 607) (by decide +kernel), List.mem_of_getElem? (i := 608) (by decide +kernel)⟩
theorem lw_p4 : lw_okq (⟨"StarTales$LawReader", "readTerm", "(I)V"⟩, 5) := ⟨⟨by decide +kernel, by decide +kernel⟩, List.mem_of_getElem? (i := 207) (by decide +kernel), List.mem_of_getElem? (i := 611) (by decide +kernel), List.mem_of_getElem? (i := 612) (by decide +kernel)⟩
theorem lw_p5 : lw_okq (⟨"StarTales$LawReader", "readFactor", "(I)V"⟩, 5) := ⟨⟨by decide +kernel, by decide +kernel⟩, List.mem_of_getElem? (i := 207) (by decide +kernel), List.mem_of_getElem? (i := 615) (by decide +kernel), List.mem_of_getElem? (i := 616) (by decide +kernel)⟩
theorem lw_p6 : lw_okq (⟨"StarTales$LawReader", "skip", "(I)V"⟩, 5) := ⟨⟨by decide +kernel, by decide +kernel⟩, List.mem_of_getElem? (i := 207) (by decide +kernel), List.mem_of_getElem? (i := 619) (by decide +kernel), List.mem_of_getElem? (i := 620) (by decide +kernel)⟩
theorem lw_p7 : lw_okq (⟨"StarTales$LawReader", "readNumber", "()V"⟩, 5) := ⟨⟨by decide +kernel, by decide +kernel⟩, List.mem_of_getElem? (i := 207) (by decide +kernel), List.mem_of_getElem? (i := 626) (by decide +kernel), List.mem_of_getElem? (i := 627) (by decide +kernel)⟩
theorem lw_p8 : lw_okq (⟨"StarTales$LawReader", "readCondition", "(I)V"⟩, 5) := ⟨⟨by decide +kernel, by decide +kernel⟩, List.mem_of_getElem? (i := 207) (by decide +kernel), List.mem_of_getElem? (i := 710) (by decide +kernel), List.mem_of_getElem? (i := 711) (by decide +kernel)⟩
theorem lw_p9 : lw_okq (⟨"StarTales$LawReader", "readPart", "(I)V"⟩, 5) := ⟨⟨by decide +kernel, by decide +kernel⟩, List.mem_of_getElem? (i := 207) (by decide +kernel), List.mem_of_getElem? (i := 714) (by decide +kernel), List.mem_of_getElem? (i := 715) (by decide +kernel)⟩
theorem lw_p10 : lw_okq (⟨"StarTales$LawReader", "readPiece", "(I)V"⟩, 5) := ⟨⟨by decide +kernel, by decide +kernel⟩, List.mem_of_getElem? (i := 207) (by decide +kernel), List.mem_of_getElem? (i := 718) (by decide +kernel), List.mem_of_getElem? (i := 719) (by decide +kernel)⟩
theorem lw_p11 : lw_okq (⟨"StarTales$LawReader", "readComparison", "(I)V"⟩, 5) := ⟨⟨by decide +kernel, by decide +kernel⟩, List.mem_of_getElem? (i := 207) (by decide +kernel), List.mem_of_getElem? (i := 722) (by decide +kernel), List.mem_of_getElem? (i := 723) (by decide +kernel)⟩
theorem lw_p12 : lw_okq (⟨"StarTales$Law", "hasLetter", "(II)Z"⟩, 15) := ⟨⟨by decide +kernel, by decide +kernel⟩, List.mem_of_getElem? (i := 134) (by decide +kernel), List.mem_of_getElem? (i := 734) (by decide +kernel), List.mem_of_getElem? (i := 735) (by decide +kernel)⟩
theorem lw_p13 : lw_okq (⟨"StarTales$Tale", "addLine", "(II)V"⟩, 3) := ⟨⟨by decide +kernel, by decide +kernel⟩, List.mem_of_getElem? (i := 229) (by decide +kernel), List.mem_of_getElem? (i := 753) (by decide +kernel), List.mem_of_getElem? (i := 754) (by decide +kernel)⟩
theorem lw_p14 : lw_okq (⟨"StarTales$Law", "run", "(II)Z"⟩, 15) := ⟨⟨by decide +kernel, by decide +kernel⟩, List.mem_of_getElem? (i := 134) (by decide +kernel), List.mem_of_getElem? (i := 814) (by decide +kernel), List.mem_of_getElem? (i := 815) (by decide +kernel)⟩
theorem lw_p15 : lw_okq (⟨"StarTales", "lookAndDraw", "(LStarTales$View;II)V"⟩, 19) := ⟨⟨by decide +kernel, by decide +kernel⟩, List.mem_of_getElem? (i := 24) (by decide +kernel), List.mem_of_getElem? (i := 823) (by decide +kernel), List.mem_of_getElem? (i := 824) (by decide +kernel)⟩
def lw_privs_1 : List (MethodName × Nat) := [(⟨"StarTales$LawReader", "readClause", "()V"⟩, 5), (⟨"StarTales$LawReader", "peek", "()I"⟩, 5), (⟨"StarTales$LawReader", "fail", "(I)V"⟩, 5), (⟨"StarTales$LawReader", "readSum", "(I)V"⟩, 5), (⟨"StarTales$LawReader", "readTerm", "(I)V"⟩, 5), (⟨"StarTales$LawReader", "readFactor", "(I)V"⟩, 5), (⟨"StarTales$LawReader", "skip", "(I)V"⟩, 5), (⟨"StarTales$LawReader", "readNumber", "()V"⟩, 5), (⟨"StarTales$LawReader", "readCondition", "(I)V"⟩, 5), (⟨"StarTales$LawReader", "readPart", "(I)V"⟩, 5), (⟨"StarTales$LawReader", "readPiece", "(I)V"⟩, 5), (⟨"StarTales$LawReader", "readComparison", "(I)V"⟩, 5), (⟨"StarTales$Law", "hasLetter", "(II)Z"⟩, 15), (⟨"StarTales$Tale", "addLine", "(II)V"⟩, 3), (⟨"StarTales$Law", "run", "(II)Z"⟩, 15), (⟨"StarTales", "lookAndDraw", "(LStarTales$View;II)V"⟩, 19)]
theorem lw_r1 : ∀ q ∈ lw_privs_1, lw_okq q := List.forall_mem_cons.mpr ⟨lw_p0, List.forall_mem_cons.mpr ⟨lw_p1, List.forall_mem_cons.mpr ⟨lw_p2, List.forall_mem_cons.mpr ⟨lw_p3, List.forall_mem_cons.mpr ⟨lw_p4, List.forall_mem_cons.mpr ⟨lw_p5, List.forall_mem_cons.mpr ⟨lw_p6, List.forall_mem_cons.mpr ⟨lw_p7, List.forall_mem_cons.mpr ⟨lw_p8, List.forall_mem_cons.mpr ⟨lw_p9, List.forall_mem_cons.mpr ⟨lw_p10, List.forall_mem_cons.mpr ⟨lw_p11, List.forall_mem_cons.mpr ⟨lw_p12, List.forall_mem_cons.mpr ⟨lw_p13, List.forall_mem_cons.mpr ⟨lw_p14, List.forall_mem_cons.mpr ⟨lw_p15, fun _ h => absurd h List.not_mem_nil⟩⟩⟩⟩⟩⟩⟩⟩⟩⟩⟩⟩⟩⟩⟩⟩
theorem lw_p16 : lw_okq (⟨"StarTales$View", "isDrawn", "(II)Z"⟩, 10) := ⟨⟨by decide +kernel, by decide +kernel⟩, List.mem_of_getElem? (i := 249) (by decide +kernel), List.mem_of_getElem? (i := 831) (by decide +kernel), List.mem_of_getElem? (i := 832) (by decide +kernel)⟩
theorem lw_p17 : lw_okq (⟨"StarTales$Matcher", "begin", "(LStarTales$Tale;I[I)V"⟩, 7) := ⟨⟨by decide +kernel, by decide +kernel⟩, List.mem_of_getElem? (i := 296) (by decide +kernel), List.mem_of_getElem? (i := 896) (by decide +kernel), List.mem_of_getElem? (i := 897) (by decide +kernel)⟩
theorem lw_p18 : lw_okq (⟨"StarTales$Matcher", "withLegs", "(II)I"⟩, 7) := ⟨⟨by decide +kernel, by decide +kernel⟩, List.mem_of_getElem? (i := 296) (by decide +kernel), List.mem_of_getElem? (i := 901) (by decide +kernel), List.mem_of_getElem? (i := 902) (by decide +kernel)⟩
theorem lw_p19 : lw_okq (⟨"StarTales$Matcher", "search", "(III)I"⟩, 7) := ⟨⟨by decide +kernel, by decide +kernel⟩, List.mem_of_getElem? (i := 296) (by decide +kernel), List.mem_of_getElem? (i := 905) (by decide +kernel), List.mem_of_getElem? (i := 906) (by decide +kernel)⟩
theorem lw_p20 : lw_okq (⟨"StarTales$Matcher", "tightest", "(II)I"⟩, 7) := ⟨⟨by decide +kernel, by decide +kernel⟩, List.mem_of_getElem? (i := 296) (by decide +kernel), List.mem_of_getElem? (i := 909) (by decide +kernel), List.mem_of_getElem? (i := 910) (by decide +kernel)⟩
theorem lw_p21 : lw_okq (⟨"StarTales$Matcher", "narrow", "(IIII)Z"⟩, 7) := ⟨⟨by decide +kernel, by decide +kernel⟩, List.mem_of_getElem? (i := 296) (by decide +kernel), List.mem_of_getElem? (i := 913) (by decide +kernel), List.mem_of_getElem? (i := 914) (by decide +kernel)⟩
theorem lw_p22 : lw_okq (⟨"StarTales$Matcher", "agree", "(II)Z"⟩, 7) := ⟨⟨by decide +kernel, by decide +kernel⟩, List.mem_of_getElem? (i := 296) (by decide +kernel), List.mem_of_getElem? (i := 917) (by decide +kernel), List.mem_of_getElem? (i := 918) (by decide +kernel)⟩
theorem lw_p23 : lw_okq (⟨"StarTales$Matcher", "besides", "(I)I"⟩, 7) := ⟨⟨by decide +kernel, by decide +kernel⟩, List.mem_of_getElem? (i := 296) (by decide +kernel), List.mem_of_getElem? (i := 921) (by decide +kernel), List.mem_of_getElem? (i := 922) (by decide +kernel)⟩
theorem lw_p24 : lw_okq (⟨"StarTales$Matcher", "settleLowest", "(I)Z"⟩, 7) := ⟨⟨by decide +kernel, by decide +kernel⟩, List.mem_of_getElem? (i := 296) (by decide +kernel), List.mem_of_getElem? (i := 930) (by decide +kernel), List.mem_of_getElem? (i := 931) (by decide +kernel)⟩
theorem lw_p25 : lw_okq (⟨"StarTales", "canBeTold", "(I)Z"⟩, 19) := ⟨⟨by decide +kernel, by decide +kernel⟩, List.mem_of_getElem? (i := 24) (by decide +kernel), List.mem_of_getElem? (i := 938) (by decide +kernel), List.mem_of_getElem? (i := 939) (by decide +kernel)⟩
theorem lw_p26 : lw_okq (⟨"StarTales$Patches", "fillParts", "(II[I)I"⟩, 7) := ⟨⟨by decide +kernel, by decide +kernel⟩, List.mem_of_getElem? (i := 381) (by decide +kernel), List.mem_of_getElem? (i := 966) (by decide +kernel), List.mem_of_getElem? (i := 967) (by decide +kernel)⟩
theorem lw_p27 : lw_okq (⟨"StarTales$Patches", "isSame", "(II)Z"⟩, 7) := ⟨⟨by decide +kernel, by decide +kernel⟩, List.mem_of_getElem? (i := 381) (by decide +kernel), List.mem_of_getElem? (i := 986) (by decide +kernel), List.mem_of_getElem? (i := 987) (by decide +kernel)⟩
theorem lw_p28 : lw_okq (⟨"StarTales$Chooser", "pairsApart", "(II)I"⟩, 7) := ⟨⟨by decide +kernel, by decide +kernel⟩, List.mem_of_getElem? (i := 410) (by decide +kernel), List.mem_of_getElem? (i := 1026) (by decide +kernel), List.mem_of_getElem? (i := 1027) (by decide +kernel)⟩
theorem lw_p29 : lw_okq (⟨"StarTales$Chooser", "leastCover", "(III)I"⟩, 7) := ⟨⟨by decide +kernel, by decide +kernel⟩, List.mem_of_getElem? (i := 410) (by decide +kernel), List.mem_of_getElem? (i := 1031) (by decide +kernel), List.mem_of_getElem? (i := 1032) (by decide +kernel)⟩
theorem lw_p30 : lw_okq (⟨"StarTales$Chooser", "offer", "(II)V"⟩, 7) := ⟨⟨by decide +kernel, by decide +kernel⟩, List.mem_of_getElem? (i := 410) (by decide +kernel), List.mem_of_getElem? (i := 1057) (by decide +kernel), List.mem_of_getElem? (i := 1058) (by decide +kernel)⟩
theorem lw_p31 : lw_okq (⟨"StarTales$Pilot", "spread", "(LStarTales$Sea;I[I)V"⟩, 15) := ⟨⟨by decide +kernel, by decide +kernel⟩, List.mem_of_getElem? (i := 325) (by decide +kernel), List.mem_of_getElem? (i := 1138) (by decide +kernel), List.mem_of_getElem? (i := 1139) (by decide +kernel)⟩
def lw_privs_2 : List (MethodName × Nat) := [(⟨"StarTales$View", "isDrawn", "(II)Z"⟩, 10), (⟨"StarTales$Matcher", "begin", "(LStarTales$Tale;I[I)V"⟩, 7), (⟨"StarTales$Matcher", "withLegs", "(II)I"⟩, 7), (⟨"StarTales$Matcher", "search", "(III)I"⟩, 7), (⟨"StarTales$Matcher", "tightest", "(II)I"⟩, 7), (⟨"StarTales$Matcher", "narrow", "(IIII)Z"⟩, 7), (⟨"StarTales$Matcher", "agree", "(II)Z"⟩, 7), (⟨"StarTales$Matcher", "besides", "(I)I"⟩, 7), (⟨"StarTales$Matcher", "settleLowest", "(I)Z"⟩, 7), (⟨"StarTales", "canBeTold", "(I)Z"⟩, 19), (⟨"StarTales$Patches", "fillParts", "(II[I)I"⟩, 7), (⟨"StarTales$Patches", "isSame", "(II)Z"⟩, 7), (⟨"StarTales$Chooser", "pairsApart", "(II)I"⟩, 7), (⟨"StarTales$Chooser", "leastCover", "(III)I"⟩, 7), (⟨"StarTales$Chooser", "offer", "(II)V"⟩, 7), (⟨"StarTales$Pilot", "spread", "(LStarTales$Sea;I[I)V"⟩, 15)]
theorem lw_r2 : ∀ q ∈ lw_privs_2, lw_okq q := List.forall_mem_cons.mpr ⟨lw_p16, List.forall_mem_cons.mpr ⟨lw_p17, List.forall_mem_cons.mpr ⟨lw_p18, List.forall_mem_cons.mpr ⟨lw_p19, List.forall_mem_cons.mpr ⟨lw_p20, List.forall_mem_cons.mpr ⟨lw_p21, List.forall_mem_cons.mpr ⟨lw_p22, List.forall_mem_cons.mpr ⟨lw_p23, List.forall_mem_cons.mpr ⟨lw_p24, List.forall_mem_cons.mpr ⟨lw_p25, List.forall_mem_cons.mpr ⟨lw_p26, List.forall_mem_cons.mpr ⟨lw_p27, List.forall_mem_cons.mpr ⟨lw_p28, List.forall_mem_cons.mpr ⟨lw_p29, List.forall_mem_cons.mpr ⟨lw_p30, List.forall_mem_cons.mpr ⟨lw_p31, fun _ h => absurd h List.not_mem_nil⟩⟩⟩⟩⟩⟩⟩⟩⟩⟩⟩⟩⟩⟩⟩⟩
theorem lw_p32 : lw_okq (⟨"StarTales", "canAskVoyage", "(III)Z"⟩, 19) := ⟨⟨by decide +kernel, by decide +kernel⟩, List.mem_of_getElem? (i := 24) (by decide +kernel), List.mem_of_getElem? (i := 1153) (by decide +kernel), List.mem_of_getElem? (i := 1154) (by decide +kernel)⟩
theorem lw_p33 : lw_okq (⟨"StarTales$Pilot", "stepFirstLegs", "(LStarTales$View;LStarTales$Sea;)V"⟩, 15) := ⟨⟨by decide +kernel, by decide +kernel⟩, List.mem_of_getElem? (i := 325) (by decide +kernel), List.mem_of_getElem? (i := 1162) (by decide +kernel), List.mem_of_getElem? (i := 1163) (by decide +kernel)⟩
theorem lw_p34 : lw_okq (⟨"StarTales$Pilot", "turnOnward", "(LStarTales$View;)V"⟩, 15) := ⟨⟨by decide +kernel, by decide +kernel⟩, List.mem_of_getElem? (i := 325) (by decide +kernel), List.mem_of_getElem? (i := 1168) (by decide +kernel), List.mem_of_getElem? (i := 1169) (by decide +kernel)⟩
theorem lw_p35 : lw_okq (⟨"StarTales$Pilot", "endFirstLegs", "(LStarTales$Sky;I)V"⟩, 15) := ⟨⟨by decide +kernel, by decide +kernel⟩, List.mem_of_getElem? (i := 325) (by decide +kernel), List.mem_of_getElem? (i := 1182) (by decide +kernel), List.mem_of_getElem? (i := 1183) (by decide +kernel)⟩
theorem lw_p36 : lw_okq (⟨"StarTales$Pilot", "isBroughtByLower", "(LStarTales$Sky;I)Z"⟩, 15) := ⟨⟨by decide +kernel, by decide +kernel⟩, List.mem_of_getElem? (i := 325) (by decide +kernel), List.mem_of_getElem? (i := 1186) (by decide +kernel), List.mem_of_getElem? (i := 1187) (by decide +kernel)⟩
theorem lw_p37 : lw_okq (⟨"StarTales$Pilot", "followSecond", "(LStarTales$View;LStarTales$Sea;III)V"⟩, 15) := ⟨⟨by decide +kernel, by decide +kernel⟩, List.mem_of_getElem? (i := 325) (by decide +kernel), List.mem_of_getElem? (i := 1191) (by decide +kernel), List.mem_of_getElem? (i := 1192) (by decide +kernel)⟩
theorem lw_p38 : lw_okq (⟨"StarTales$Matcher", "hide", "(LStarTales$Tale;LStarTales$View;II)V"⟩, 7) := ⟨⟨by decide +kernel, by decide +kernel⟩, List.mem_of_getElem? (i := 296) (by decide +kernel), List.mem_of_getElem? (i := 1211) (by decide +kernel), List.mem_of_getElem? (i := 1212) (by decide +kernel)⟩
theorem lw_p39 : lw_okq (⟨"StarTales$Matcher", "columnsOfWay", "(LStarTales$Tale;LStarTales$Sky;)I"⟩, 7) := ⟨⟨by decide +kernel, by decide +kernel⟩, List.mem_of_getElem? (i := 296) (by decide +kernel), List.mem_of_getElem? (i := 1220) (by decide +kernel), List.mem_of_getElem? (i := 1221) (by decide +kernel)⟩
theorem lw_p40 : lw_okq (⟨"StarTales", "isLogBytes", "(I)Z"⟩, 19) := ⟨⟨by decide +kernel, by decide +kernel⟩, List.mem_of_getElem? (i := 24) (by decide +kernel), List.mem_of_getElem? (i := 1228) (by decide +kernel), List.mem_of_getElem? (i := 1229) (by decide +kernel)⟩
theorem lw_p41 : lw_okq (⟨"StarTales", "moveSpots", "(I)V"⟩, 19) := ⟨⟨by decide +kernel, by decide +kernel⟩, List.mem_of_getElem? (i := 24) (by decide +kernel), List.mem_of_getElem? (i := 1232) (by decide +kernel), List.mem_of_getElem? (i := 1233) (by decide +kernel)⟩
theorem lw_p42 : lw_okq (⟨"StarTales", "countSpots", "()I"⟩, 19) := ⟨⟨by decide +kernel, by decide +kernel⟩, List.mem_of_getElem? (i := 24) (by decide +kernel), List.mem_of_getElem? (i := 1237) (by decide +kernel), List.mem_of_getElem? (i := 1238) (by decide +kernel)⟩
theorem lw_p43 : lw_okq (⟨"StarTales", "firstSpot", "()I"⟩, 19) := ⟨⟨by decide +kernel, by decide +kernel⟩, List.mem_of_getElem? (i := 24) (by decide +kernel), List.mem_of_getElem? (i := 1241) (by decide +kernel), List.mem_of_getElem? (i := 1242) (by decide +kernel)⟩
theorem lw_p44 : lw_okq (⟨"StarTalesModel", "isTold", "(I)Z"⟩, 64) := ⟨⟨by decide +kernel, by decide +kernel⟩, List.mem_of_getElem? (i := 1295) (by decide +kernel), List.mem_of_getElem? (i := 1508) (by decide +kernel), List.mem_of_getElem? (i := 1509) (by decide +kernel)⟩
theorem lw_p45 : lw_okq (⟨"StarTalesModel", "isShip", "(I)Z"⟩, 64) := ⟨⟨by decide +kernel, by decide +kernel⟩, List.mem_of_getElem? (i := 1295) (by decide +kernel), List.mem_of_getElem? (i := 1536) (by decide +kernel), List.mem_of_getElem? (i := 1537) (by decide +kernel)⟩
theorem lw_p46 : lw_okq (⟨"StarTalesModel", "isLand", "(I)Z"⟩, 64) := ⟨⟨by decide +kernel, by decide +kernel⟩, List.mem_of_getElem? (i := 1295) (by decide +kernel), List.mem_of_getElem? (i := 1544) (by decide +kernel), List.mem_of_getElem? (i := 1545) (by decide +kernel)⟩
theorem lw_p47 : lw_okq (⟨"StarTalesModel", "types", "(I)V"⟩, 64) := ⟨⟨by decide +kernel, by decide +kernel⟩, List.mem_of_getElem? (i := 1295) (by decide +kernel), List.mem_of_getElem? (i := 1552) (by decide +kernel), List.mem_of_getElem? (i := 1553) (by decide +kernel)⟩
def lw_privs_3 : List (MethodName × Nat) := [(⟨"StarTales", "canAskVoyage", "(III)Z"⟩, 19), (⟨"StarTales$Pilot", "stepFirstLegs", "(LStarTales$View;LStarTales$Sea;)V"⟩, 15), (⟨"StarTales$Pilot", "turnOnward", "(LStarTales$View;)V"⟩, 15), (⟨"StarTales$Pilot", "endFirstLegs", "(LStarTales$Sky;I)V"⟩, 15), (⟨"StarTales$Pilot", "isBroughtByLower", "(LStarTales$Sky;I)Z"⟩, 15), (⟨"StarTales$Pilot", "followSecond", "(LStarTales$View;LStarTales$Sea;III)V"⟩, 15), (⟨"StarTales$Matcher", "hide", "(LStarTales$Tale;LStarTales$View;II)V"⟩, 7), (⟨"StarTales$Matcher", "columnsOfWay", "(LStarTales$Tale;LStarTales$Sky;)I"⟩, 7), (⟨"StarTales", "isLogBytes", "(I)Z"⟩, 19), (⟨"StarTales", "moveSpots", "(I)V"⟩, 19), (⟨"StarTales", "countSpots", "()I"⟩, 19), (⟨"StarTales", "firstSpot", "()I"⟩, 19), (⟨"StarTalesModel", "isTold", "(I)Z"⟩, 64), (⟨"StarTalesModel", "isShip", "(I)Z"⟩, 64), (⟨"StarTalesModel", "isLand", "(I)Z"⟩, 64), (⟨"StarTalesModel", "types", "(I)V"⟩, 64)]
theorem lw_r3 : ∀ q ∈ lw_privs_3, lw_okq q := List.forall_mem_cons.mpr ⟨lw_p32, List.forall_mem_cons.mpr ⟨lw_p33, List.forall_mem_cons.mpr ⟨lw_p34, List.forall_mem_cons.mpr ⟨lw_p35, List.forall_mem_cons.mpr ⟨lw_p36, List.forall_mem_cons.mpr ⟨lw_p37, List.forall_mem_cons.mpr ⟨lw_p38, List.forall_mem_cons.mpr ⟨lw_p39, List.forall_mem_cons.mpr ⟨lw_p40, List.forall_mem_cons.mpr ⟨lw_p41, List.forall_mem_cons.mpr ⟨lw_p42, List.forall_mem_cons.mpr ⟨lw_p43, List.forall_mem_cons.mpr ⟨lw_p44, List.forall_mem_cons.mpr ⟨lw_p45, List.forall_mem_cons.mpr ⟨lw_p46, List.forall_mem_cons.mpr ⟨lw_p47, fun _ h => absurd h List.not_mem_nil⟩⟩⟩⟩⟩⟩⟩⟩⟩⟩⟩⟩⟩⟩⟩⟩
theorem lw_p48 : lw_okq (⟨"StarTalesModel", "readsClause", "()Z"⟩, 64) := ⟨⟨by decide +kernel, by decide +kernel⟩, List.mem_of_getElem? (i := 1295) (by decide +kernel), List.mem_of_getElem? (i := 1560) (by decide +kernel), List.mem_of_getElem? (i := 1561) (by decide +kernel)⟩
theorem lw_p49 : lw_okq (⟨"StarTalesModel", "here", "()I"⟩, 64) := ⟨⟨by decide +kernel, by decide +kernel⟩, List.mem_of_getElem? (i := 1295) (by decide +kernel), List.mem_of_getElem? (i := 1564) (by decide +kernel), List.mem_of_getElem? (i := 1565) (by decide +kernel)⟩
theorem lw_p50 : lw_okq (⟨"StarTalesModel", "wrongAt", "(II)Z"⟩, 64) := ⟨⟨by decide +kernel, by decide +kernel⟩, List.mem_of_getElem? (i := 1295) (by decide +kernel), List.mem_of_getElem? (i := 1571) (by decide +kernel), List.mem_of_getElem? (i := 1572) (by decide +kernel)⟩
theorem lw_p51 : lw_okq (⟨"StarTalesModel", "readsSum", "()Z"⟩, 64) := ⟨⟨by decide +kernel, by decide +kernel⟩, List.mem_of_getElem? (i := 1295) (by decide +kernel), List.mem_of_getElem? (i := 1575) (by decide +kernel), List.mem_of_getElem? (i := 1576) (by decide +kernel)⟩
theorem lw_p52 : lw_okq (⟨"StarTalesModel", "readsFactor", "()Z"⟩, 64) := ⟨⟨by decide +kernel, by decide +kernel⟩, List.mem_of_getElem? (i := 1295) (by decide +kernel), List.mem_of_getElem? (i := 1579) (by decide +kernel), List.mem_of_getElem? (i := 1580) (by decide +kernel)⟩
theorem lw_p53 : lw_okq (⟨"StarTalesModel", "opens", "(I)Z"⟩, 64) := ⟨⟨by decide +kernel, by decide +kernel⟩, List.mem_of_getElem? (i := 1295) (by decide +kernel), List.mem_of_getElem? (i := 1583) (by decide +kernel), List.mem_of_getElem? (i := 1584) (by decide +kernel)⟩
theorem lw_p54 : lw_okq (⟨"StarTalesModel", "isDigit", "()Z"⟩, 64) := ⟨⟨by decide +kernel, by decide +kernel⟩, List.mem_of_getElem? (i := 1295) (by decide +kernel), List.mem_of_getElem? (i := 1588) (by decide +kernel), List.mem_of_getElem? (i := 1589) (by decide +kernel)⟩
theorem lw_p55 : lw_okq (⟨"StarTalesModel", "readsNumber", "()Z"⟩, 64) := ⟨⟨by decide +kernel, by decide +kernel⟩, List.mem_of_getElem? (i := 1295) (by decide +kernel), List.mem_of_getElem? (i := 1592) (by decide +kernel), List.mem_of_getElem? (i := 1593) (by decide +kernel)⟩
theorem lw_p56 : lw_okq (⟨"StarTalesModel", "notes", "(II)V"⟩, 64) := ⟨⟨by decide +kernel, by decide +kernel⟩, List.mem_of_getElem? (i := 1295) (by decide +kernel), List.mem_of_getElem? (i := 1596) (by decide +kernel), List.mem_of_getElem? (i := 1597) (by decide +kernel)⟩
theorem lw_p57 : lw_okq (⟨"StarTalesModel", "closesSums", "(Z)V"⟩, 64) := ⟨⟨by decide +kernel, by decide +kernel⟩, List.mem_of_getElem? (i := 1295) (by decide +kernel), List.mem_of_getElem? (i := 1606) (by decide +kernel), List.mem_of_getElem? (i := 1607) (by decide +kernel)⟩
theorem lw_p58 : lw_okq (⟨"StarTalesModel", "waitTop", "()I"⟩, 64) := ⟨⟨by decide +kernel, by decide +kernel⟩, List.mem_of_getElem? (i := 1295) (by decide +kernel), List.mem_of_getElem? (i := 1610) (by decide +kernel), List.mem_of_getElem? (i := 1611) (by decide +kernel)⟩
theorem lw_p59 : lw_okq (⟨"StarTalesModel", "hasOpenSum", "(I)Z"⟩, 64) := ⟨⟨by decide +kernel, by decide +kernel⟩, List.mem_of_getElem? (i := 1295) (by decide +kernel), List.mem_of_getElem? (i := 1614) (by decide +kernel), List.mem_of_getElem? (i := 1615) (by decide +kernel)⟩
theorem lw_p60 : lw_okq (⟨"StarTalesModel", "readsCondition", "()Z"⟩, 64) := ⟨⟨by decide +kernel, by decide +kernel⟩, List.mem_of_getElem? (i := 1295) (by decide +kernel), List.mem_of_getElem? (i := 1618) (by decide +kernel), List.mem_of_getElem? (i := 1619) (by decide +kernel)⟩
theorem lw_p61 : lw_okq (⟨"StarTalesModel", "readsCompared", "()Z"⟩, 64) := ⟨⟨by decide +kernel, by decide +kernel⟩, List.mem_of_getElem? (i := 1295) (by decide +kernel), List.mem_of_getElem? (i := 1622) (by decide +kernel), List.mem_of_getElem? (i := 1623) (by decide +kernel)⟩
theorem lw_p62 : lw_okq (⟨"StarTalesModel", "endsPiece", "()V"⟩, 64) := ⟨⟨by decide +kernel, by decide +kernel⟩, List.mem_of_getElem? (i := 1295) (by decide +kernel), List.mem_of_getElem? (i := 1626) (by decide +kernel), List.mem_of_getElem? (i := 1627) (by decide +kernel)⟩
theorem lw_p63 : lw_okq (⟨"StarTalesModel", "lands", "(Z)V"⟩, 64) := ⟨⟨by decide +kernel, by decide +kernel⟩, List.mem_of_getElem? (i := 1295) (by decide +kernel), List.mem_of_getElem? (i := 1630) (by decide +kernel), List.mem_of_getElem? (i := 1631) (by decide +kernel)⟩
def lw_privs_4 : List (MethodName × Nat) := [(⟨"StarTalesModel", "readsClause", "()Z"⟩, 64), (⟨"StarTalesModel", "here", "()I"⟩, 64), (⟨"StarTalesModel", "wrongAt", "(II)Z"⟩, 64), (⟨"StarTalesModel", "readsSum", "()Z"⟩, 64), (⟨"StarTalesModel", "readsFactor", "()Z"⟩, 64), (⟨"StarTalesModel", "opens", "(I)Z"⟩, 64), (⟨"StarTalesModel", "isDigit", "()Z"⟩, 64), (⟨"StarTalesModel", "readsNumber", "()Z"⟩, 64), (⟨"StarTalesModel", "notes", "(II)V"⟩, 64), (⟨"StarTalesModel", "closesSums", "(Z)V"⟩, 64), (⟨"StarTalesModel", "waitTop", "()I"⟩, 64), (⟨"StarTalesModel", "hasOpenSum", "(I)Z"⟩, 64), (⟨"StarTalesModel", "readsCondition", "()Z"⟩, 64), (⟨"StarTalesModel", "readsCompared", "()Z"⟩, 64), (⟨"StarTalesModel", "endsPiece", "()V"⟩, 64), (⟨"StarTalesModel", "lands", "(Z)V"⟩, 64)]
theorem lw_r4 : ∀ q ∈ lw_privs_4, lw_okq q := List.forall_mem_cons.mpr ⟨lw_p48, List.forall_mem_cons.mpr ⟨lw_p49, List.forall_mem_cons.mpr ⟨lw_p50, List.forall_mem_cons.mpr ⟨lw_p51, List.forall_mem_cons.mpr ⟨lw_p52, List.forall_mem_cons.mpr ⟨lw_p53, List.forall_mem_cons.mpr ⟨lw_p54, List.forall_mem_cons.mpr ⟨lw_p55, List.forall_mem_cons.mpr ⟨lw_p56, List.forall_mem_cons.mpr ⟨lw_p57, List.forall_mem_cons.mpr ⟨lw_p58, List.forall_mem_cons.mpr ⟨lw_p59, List.forall_mem_cons.mpr ⟨lw_p60, List.forall_mem_cons.mpr ⟨lw_p61, List.forall_mem_cons.mpr ⟨lw_p62, List.forall_mem_cons.mpr ⟨lw_p63, fun _ h => absurd h List.not_mem_nil⟩⟩⟩⟩⟩⟩⟩⟩⟩⟩⟩⟩⟩⟩⟩⟩
theorem lw_p64 : lw_okq (⟨"StarTalesModel", "jumps", "(I)V"⟩, 64) := ⟨⟨by decide +kernel, by decide +kernel⟩, List.mem_of_getElem? (i := 1295) (by decide +kernel), List.mem_of_getElem? (i := 1634) (by decide +kernel), List.mem_of_getElem? (i := 1635) (by decide +kernel)⟩
theorem lw_p65 : lw_okq (⟨"StarTalesModel", "takes", "(I)Z"⟩, 64) := ⟨⟨by decide +kernel, by decide +kernel⟩, List.mem_of_getElem? (i := 1295) (by decide +kernel), List.mem_of_getElem? (i := 1638) (by decide +kernel), List.mem_of_getElem? (i := 1639) (by decide +kernel)⟩
theorem lw_p66 : lw_okq (⟨"StarTalesModel", "standsAt", "(I)I"⟩, 64) := ⟨⟨by decide +kernel, by decide +kernel⟩, List.mem_of_getElem? (i := 1295) (by decide +kernel), List.mem_of_getElem? (i := 1646) (by decide +kernel), List.mem_of_getElem? (i := 1647) (by decide +kernel)⟩
theorem lw_p67 : lw_okq (⟨"StarTalesModel", "seenFrom", "(I)I"⟩, 64) := ⟨⟨by decide +kernel, by decide +kernel⟩, List.mem_of_getElem? (i := 1295) (by decide +kernel), List.mem_of_getElem? (i := 1654) (by decide +kernel), List.mem_of_getElem? (i := 1655) (by decide +kernel)⟩
theorem lw_p68 : lw_okq (⟨"StarTalesModel", "isSeen", "(II)Z"⟩, 64) := ⟨⟨by decide +kernel, by decide +kernel⟩, List.mem_of_getElem? (i := 1295) (by decide +kernel), List.mem_of_getElem? (i := 1658) (by decide +kernel), List.mem_of_getElem? (i := 1659) (by decide +kernel)⟩
theorem lw_p69 : lw_okq (⟨"StarTalesModel", "hasClause", "(I)Z"⟩, 64) := ⟨⟨by decide +kernel, by decide +kernel⟩, List.mem_of_getElem? (i := 1295) (by decide +kernel), List.mem_of_getElem? (i := 1668) (by decide +kernel), List.mem_of_getElem? (i := 1669) (by decide +kernel)⟩
theorem lw_p70 : lw_okq (⟨"StarTalesModel", "feelsStar", "(I)V"⟩, 64) := ⟨⟨by decide +kernel, by decide +kernel⟩, List.mem_of_getElem? (i := 1295) (by decide +kernel), List.mem_of_getElem? (i := 1672) (by decide +kernel), List.mem_of_getElem? (i := 1673) (by decide +kernel)⟩
theorem lw_p71 : lw_okq (⟨"StarTalesModel", "feels", "()V"⟩, 64) := ⟨⟨by decide +kernel, by decide +kernel⟩, List.mem_of_getElem? (i := 1295) (by decide +kernel), List.mem_of_getElem? (i := 1676) (by decide +kernel), List.mem_of_getElem? (i := 1677) (by decide +kernel)⟩
theorem lw_p72 : lw_okq (⟨"StarTalesModel", "anyOf", "(I)Z"⟩, 64) := ⟨⟨by decide +kernel, by decide +kernel⟩, List.mem_of_getElem? (i := 1295) (by decide +kernel), List.mem_of_getElem? (i := 1683) (by decide +kernel), List.mem_of_getElem? (i := 1684) (by decide +kernel)⟩
theorem lw_p73 : lw_okq (⟨"StarTalesModel", "comesTo", "(II)I"⟩, 64) := ⟨⟨by decide +kernel, by decide +kernel⟩, List.mem_of_getElem? (i := 1295) (by decide +kernel), List.mem_of_getElem? (i := 1687) (by decide +kernel), List.mem_of_getElem? (i := 1688) (by decide +kernel)⟩
theorem lw_p74 : lw_okq (⟨"StarTalesModel", "looks", "(I)V"⟩, 64) := ⟨⟨by decide +kernel, by decide +kernel⟩, List.mem_of_getElem? (i := 1295) (by decide +kernel), List.mem_of_getElem? (i := 1698) (by decide +kernel), List.mem_of_getElem? (i := 1699) (by decide +kernel)⟩
theorem lw_p75 : lw_okq (⟨"StarTalesModel", "isDrawn", "(III)Z"⟩, 64) := ⟨⟨by decide +kernel, by decide +kernel⟩, List.mem_of_getElem? (i := 1295) (by decide +kernel), List.mem_of_getElem? (i := 1702) (by decide +kernel), List.mem_of_getElem? (i := 1703) (by decide +kernel)⟩
theorem lw_p76 : lw_okq (⟨"StarTalesModel", "laysFigures", "()V"⟩, 64) := ⟨⟨by decide +kernel, by decide +kernel⟩, List.mem_of_getElem? (i := 1295) (by decide +kernel), List.mem_of_getElem? (i := 1710) (by decide +kernel), List.mem_of_getElem? (i := 1711) (by decide +kernel)⟩
theorem lw_p77 : lw_okq (⟨"StarTalesModel", "figureOf", "(I)I"⟩, 64) := ⟨⟨by decide +kernel, by decide +kernel⟩, List.mem_of_getElem? (i := 1295) (by decide +kernel), List.mem_of_getElem? (i := 1714) (by decide +kernel), List.mem_of_getElem? (i := 1715) (by decide +kernel)⟩
theorem lw_p78 : lw_okq (⟨"StarTalesModel", "mostLegs", "()I"⟩, 64) := ⟨⟨by decide +kernel, by decide +kernel⟩, List.mem_of_getElem? (i := 1295) (by decide +kernel), List.mem_of_getElem? (i := 1724) (by decide +kernel), List.mem_of_getElem? (i := 1725) (by decide +kernel)⟩
theorem lw_p79 : lw_okq (⟨"StarTalesModel", "lineMany", "()I"⟩, 64) := ⟨⟨by decide +kernel, by decide +kernel⟩, List.mem_of_getElem? (i := 1295) (by decide +kernel), List.mem_of_getElem? (i := 1728) (by decide +kernel), List.mem_of_getElem? (i := 1729) (by decide +kernel)⟩
def lw_privs_5 : List (MethodName × Nat) := [(⟨"StarTalesModel", "jumps", "(I)V"⟩, 64), (⟨"StarTalesModel", "takes", "(I)Z"⟩, 64), (⟨"StarTalesModel", "standsAt", "(I)I"⟩, 64), (⟨"StarTalesModel", "seenFrom", "(I)I"⟩, 64), (⟨"StarTalesModel", "isSeen", "(II)Z"⟩, 64), (⟨"StarTalesModel", "hasClause", "(I)Z"⟩, 64), (⟨"StarTalesModel", "feelsStar", "(I)V"⟩, 64), (⟨"StarTalesModel", "feels", "()V"⟩, 64), (⟨"StarTalesModel", "anyOf", "(I)Z"⟩, 64), (⟨"StarTalesModel", "comesTo", "(II)I"⟩, 64), (⟨"StarTalesModel", "looks", "(I)V"⟩, 64), (⟨"StarTalesModel", "isDrawn", "(III)Z"⟩, 64), (⟨"StarTalesModel", "laysFigures", "()V"⟩, 64), (⟨"StarTalesModel", "figureOf", "(I)I"⟩, 64), (⟨"StarTalesModel", "mostLegs", "()I"⟩, 64), (⟨"StarTalesModel", "lineMany", "()I"⟩, 64)]
theorem lw_r5 : ∀ q ∈ lw_privs_5, lw_okq q := List.forall_mem_cons.mpr ⟨lw_p64, List.forall_mem_cons.mpr ⟨lw_p65, List.forall_mem_cons.mpr ⟨lw_p66, List.forall_mem_cons.mpr ⟨lw_p67, List.forall_mem_cons.mpr ⟨lw_p68, List.forall_mem_cons.mpr ⟨lw_p69, List.forall_mem_cons.mpr ⟨lw_p70, List.forall_mem_cons.mpr ⟨lw_p71, List.forall_mem_cons.mpr ⟨lw_p72, List.forall_mem_cons.mpr ⟨lw_p73, List.forall_mem_cons.mpr ⟨lw_p74, List.forall_mem_cons.mpr ⟨lw_p75, List.forall_mem_cons.mpr ⟨lw_p76, List.forall_mem_cons.mpr ⟨lw_p77, List.forall_mem_cons.mpr ⟨lw_p78, List.forall_mem_cons.mpr ⟨lw_p79, fun _ h => absurd h List.not_mem_nil⟩⟩⟩⟩⟩⟩⟩⟩⟩⟩⟩⟩⟩⟩⟩⟩
theorem lw_p80 : lw_okq (⟨"StarTalesModel", "holding", "()I"⟩, 64) := ⟨⟨by decide +kernel, by decide +kernel⟩, List.mem_of_getElem? (i := 1295) (by decide +kernel), List.mem_of_getElem? (i := 1732) (by decide +kernel), List.mem_of_getElem? (i := 1733) (by decide +kernel)⟩
theorem lw_p81 : lw_okq (⟨"StarTalesModel", "readsTaleLine", "()Z"⟩, 64) := ⟨⟨by decide +kernel, by decide +kernel⟩, List.mem_of_getElem? (i := 1295) (by decide +kernel), List.mem_of_getElem? (i := 1744) (by decide +kernel), List.mem_of_getElem? (i := 1745) (by decide +kernel)⟩
theorem lw_p82 : lw_okq (⟨"StarTalesModel", "isName", "()Z"⟩, 64) := ⟨⟨by decide +kernel, by decide +kernel⟩, List.mem_of_getElem? (i := 1295) (by decide +kernel), List.mem_of_getElem? (i := 1748) (by decide +kernel), List.mem_of_getElem? (i := 1749) (by decide +kernel)⟩
theorem lw_p83 : lw_okq (⟨"StarTalesModel", "isTwice", "(II)Z"⟩, 64) := ⟨⟨by decide +kernel, by decide +kernel⟩, List.mem_of_getElem? (i := 1295) (by decide +kernel), List.mem_of_getElem? (i := 1752) (by decide +kernel), List.mem_of_getElem? (i := 1753) (by decide +kernel)⟩
theorem lw_p84 : lw_okq (⟨"StarTalesModel", "ways", "(I)I"⟩, 64) := ⟨⟨by decide +kernel, by decide +kernel⟩, List.mem_of_getElem? (i := 1295) (by decide +kernel), List.mem_of_getElem? (i := 1760) (by decide +kernel), List.mem_of_getElem? (i := 1761) (by decide +kernel)⟩
theorem lw_p85 : lw_okq (⟨"StarTalesModel", "laysNames", "()V"⟩, 64) := ⟨⟨by decide +kernel, by decide +kernel⟩, List.mem_of_getElem? (i := 1295) (by decide +kernel), List.mem_of_getElem? (i := 1764) (by decide +kernel), List.mem_of_getElem? (i := 1765) (by decide +kernel)⟩
theorem lw_p86 : lw_okq (⟨"StarTalesModel", "canBe", "(II)Z"⟩, 64) := ⟨⟨by decide +kernel, by decide +kernel⟩, List.mem_of_getElem? (i := 1295) (by decide +kernel), List.mem_of_getElem? (i := 1768) (by decide +kernel), List.mem_of_getElem? (i := 1769) (by decide +kernel)⟩
theorem lw_p87 : lw_okq (⟨"StarTalesModel", "canBeTold", "(I)Z"⟩, 64) := ⟨⟨by decide +kernel, by decide +kernel⟩, List.mem_of_getElem? (i := 1295) (by decide +kernel), List.mem_of_getElem? (i := 1776) (by decide +kernel), List.mem_of_getElem? (i := 1777) (by decide +kernel)⟩
theorem lw_p88 : lw_okq (⟨"StarTalesModel", "laysPatches", "()V"⟩, 64) := ⟨⟨by decide +kernel, by decide +kernel⟩, List.mem_of_getElem? (i := 1295) (by decide +kernel), List.mem_of_getElem? (i := 1788) (by decide +kernel), List.mem_of_getElem? (i := 1789) (by decide +kernel)⟩
theorem lw_p89 : lw_okq (⟨"StarTalesModel", "laysPatch", "(I)V"⟩, 64) := ⟨⟨by decide +kernel, by decide +kernel⟩, List.mem_of_getElem? (i := 1295) (by decide +kernel), List.mem_of_getElem? (i := 1792) (by decide +kernel), List.mem_of_getElem? (i := 1793) (by decide +kernel)⟩
theorem lw_p90 : lw_okq (⟨"StarTalesModel", "partOf", "(II)I"⟩, 64) := ⟨⟨by decide +kernel, by decide +kernel⟩, List.mem_of_getElem? (i := 1295) (by decide +kernel), List.mem_of_getElem? (i := 1796) (by decide +kernel), List.mem_of_getElem? (i := 1797) (by decide +kernel)⟩
theorem lw_p91 : lw_okq (⟨"StarTalesModel", "alikeFrom", "(II)I"⟩, 64) := ⟨⟨by decide +kernel, by decide +kernel⟩, List.mem_of_getElem? (i := 1295) (by decide +kernel), List.mem_of_getElem? (i := 1803) (by decide +kernel), List.mem_of_getElem? (i := 1804) (by decide +kernel)⟩
theorem lw_p92 : lw_okq (⟨"StarTalesModel", "areAlike", "(II)Z"⟩, 64) := ⟨⟨by decide +kernel, by decide +kernel⟩, List.mem_of_getElem? (i := 1295) (by decide +kernel), List.mem_of_getElem? (i := 1807) (by decide +kernel), List.mem_of_getElem? (i := 1808) (by decide +kernel)⟩
theorem lw_p93 : lw_okq (⟨"StarTalesModel", "hasParts", "(II)Z"⟩, 64) := ⟨⟨by decide +kernel, by decide +kernel⟩, List.mem_of_getElem? (i := 1295) (by decide +kernel), List.mem_of_getElem? (i := 1816) (by decide +kernel), List.mem_of_getElem? (i := 1817) (by decide +kernel)⟩
theorem lw_p94 : lw_okq (⟨"StarTalesModel", "takesPlaces", "(I)Z"⟩, 64) := ⟨⟨by decide +kernel, by decide +kernel⟩, List.mem_of_getElem? (i := 1295) (by decide +kernel), List.mem_of_getElem? (i := 1824) (by decide +kernel), List.mem_of_getElem? (i := 1825) (by decide +kernel)⟩
theorem lw_p95 : lw_okq (⟨"StarTalesModel", "leastOf", "(I)I"⟩, 64) := ⟨⟨by decide +kernel, by decide +kernel⟩, List.mem_of_getElem? (i := 1295) (by decide +kernel), List.mem_of_getElem? (i := 1828) (by decide +kernel), List.mem_of_getElem? (i := 1829) (by decide +kernel)⟩
def lw_privs_6 : List (MethodName × Nat) := [(⟨"StarTalesModel", "holding", "()I"⟩, 64), (⟨"StarTalesModel", "readsTaleLine", "()Z"⟩, 64), (⟨"StarTalesModel", "isName", "()Z"⟩, 64), (⟨"StarTalesModel", "isTwice", "(II)Z"⟩, 64), (⟨"StarTalesModel", "ways", "(I)I"⟩, 64), (⟨"StarTalesModel", "laysNames", "()V"⟩, 64), (⟨"StarTalesModel", "canBe", "(II)Z"⟩, 64), (⟨"StarTalesModel", "canBeTold", "(I)Z"⟩, 64), (⟨"StarTalesModel", "laysPatches", "()V"⟩, 64), (⟨"StarTalesModel", "laysPatch", "(I)V"⟩, 64), (⟨"StarTalesModel", "partOf", "(II)I"⟩, 64), (⟨"StarTalesModel", "alikeFrom", "(II)I"⟩, 64), (⟨"StarTalesModel", "areAlike", "(II)Z"⟩, 64), (⟨"StarTalesModel", "hasParts", "(II)Z"⟩, 64), (⟨"StarTalesModel", "takesPlaces", "(I)Z"⟩, 64), (⟨"StarTalesModel", "leastOf", "(I)I"⟩, 64)]
theorem lw_r6 : ∀ q ∈ lw_privs_6, lw_okq q := List.forall_mem_cons.mpr ⟨lw_p80, List.forall_mem_cons.mpr ⟨lw_p81, List.forall_mem_cons.mpr ⟨lw_p82, List.forall_mem_cons.mpr ⟨lw_p83, List.forall_mem_cons.mpr ⟨lw_p84, List.forall_mem_cons.mpr ⟨lw_p85, List.forall_mem_cons.mpr ⟨lw_p86, List.forall_mem_cons.mpr ⟨lw_p87, List.forall_mem_cons.mpr ⟨lw_p88, List.forall_mem_cons.mpr ⟨lw_p89, List.forall_mem_cons.mpr ⟨lw_p90, List.forall_mem_cons.mpr ⟨lw_p91, List.forall_mem_cons.mpr ⟨lw_p92, List.forall_mem_cons.mpr ⟨lw_p93, List.forall_mem_cons.mpr ⟨lw_p94, List.forall_mem_cons.mpr ⟨lw_p95, fun _ h => absurd h List.not_mem_nil⟩⟩⟩⟩⟩⟩⟩⟩⟩⟩⟩⟩⟩⟩⟩⟩
theorem lw_p96 : lw_okq (⟨"StarTalesModel", "tellsApart", "(I)Z"⟩, 64) := ⟨⟨by decide +kernel, by decide +kernel⟩, List.mem_of_getElem? (i := 1295) (by decide +kernel), List.mem_of_getElem? (i := 1833) (by decide +kernel), List.mem_of_getElem? (i := 1834) (by decide +kernel)⟩
theorem lw_p97 : lw_okq (⟨"StarTalesModel", "byLaw", "(II)I"⟩, 64) := ⟨⟨by decide +kernel, by decide +kernel⟩, List.mem_of_getElem? (i := 1295) (by decide +kernel), List.mem_of_getElem? (i := 1841) (by decide +kernel), List.mem_of_getElem? (i := 1842) (by decide +kernel)⟩
theorem lw_p98 : lw_okq (⟨"StarTalesModel", "steers", "(IIZ)V"⟩, 64) := ⟨⟨by decide +kernel, by decide +kernel⟩, List.mem_of_getElem? (i := 1295) (by decide +kernel), List.mem_of_getElem? (i := 1849) (by decide +kernel), List.mem_of_getElem? (i := 1850) (by decide +kernel)⟩
theorem lw_p99 : lw_okq (⟨"StarTalesModel", "drawsClouds", "()V"⟩, 64) := ⟨⟨by decide +kernel, by decide +kernel⟩, List.mem_of_getElem? (i := 1295) (by decide +kernel), List.mem_of_getElem? (i := 1853) (by decide +kernel), List.mem_of_getElem? (i := 1854) (by decide +kernel)⟩
theorem lw_p100 : lw_okq (⟨"StarTalesModel", "steersFrom", "(II)I"⟩, 64) := ⟨⟨by decide +kernel, by decide +kernel⟩, List.mem_of_getElem? (i := 1295) (by decide +kernel), List.mem_of_getElem? (i := 1858) (by decide +kernel), List.mem_of_getElem? (i := 1859) (by decide +kernel)⟩
theorem lw_p101 : lw_okq (⟨"StarTalesModel", "passes", "()V"⟩, 64) := ⟨⟨by decide +kernel, by decide +kernel⟩, List.mem_of_getElem? (i := 1295) (by decide +kernel), List.mem_of_getElem? (i := 1865) (by decide +kernel), List.mem_of_getElem? (i := 1866) (by decide +kernel)⟩
theorem lw_p102 : lw_okq (⟨"StarTalesModel", "walks", "()V"⟩, 64) := ⟨⟨by decide +kernel, by decide +kernel⟩, List.mem_of_getElem? (i := 1295) (by decide +kernel), List.mem_of_getElem? (i := 1869) (by decide +kernel), List.mem_of_getElem? (i := 1870) (by decide +kernel)⟩
theorem lw_p103 : lw_okq (⟨"StarTalesModel", "begins", "()V"⟩, 64) := ⟨⟨by decide +kernel, by decide +kernel⟩, List.mem_of_getElem? (i := 1295) (by decide +kernel), List.mem_of_getElem? (i := 1884) (by decide +kernel), List.mem_of_getElem? (i := 1885) (by decide +kernel)⟩
theorem lw_p104 : lw_okq (⟨"StarTalesModel", "again", "()V"⟩, 64) := ⟨⟨by decide +kernel, by decide +kernel⟩, List.mem_of_getElem? (i := 1295) (by decide +kernel), List.mem_of_getElem? (i := 1891) (by decide +kernel), List.mem_of_getElem? (i := 1892) (by decide +kernel)⟩
theorem lw_p105 : lw_okq (⟨"StarTalesModel", "sails", "(I[I)V"⟩, 64) := ⟨⟨by decide +kernel, by decide +kernel⟩, List.mem_of_getElem? (i := 1295) (by decide +kernel), List.mem_of_getElem? (i := 1899) (by decide +kernel), List.mem_of_getElem? (i := 1900) (by decide +kernel)⟩
theorem lw_p106 : lw_okq (⟨"StarTalesModel", "comesBy", "(IIII)I"⟩, 64) := ⟨⟨by decide +kernel, by decide +kernel⟩, List.mem_of_getElem? (i := 1295) (by decide +kernel), List.mem_of_getElem? (i := 1910) (by decide +kernel), List.mem_of_getElem? (i := 1911) (by decide +kernel)⟩
theorem lw_p107 : lw_okq (⟨"StarTalesModel", "laysTwo", "(III)Z"⟩, 64) := ⟨⟨by decide +kernel, by decide +kernel⟩, List.mem_of_getElem? (i := 1295) (by decide +kernel), List.mem_of_getElem? (i := 1918) (by decide +kernel), List.mem_of_getElem? (i := 1919) (by decide +kernel)⟩
theorem lw_p108 : lw_okq (⟨"StarTalesModel", "comesByTwo", "(IIIIII)Z"⟩, 64) := ⟨⟨by decide +kernel, by decide +kernel⟩, List.mem_of_getElem? (i := 1295) (by decide +kernel), List.mem_of_getElem? (i := 1922) (by decide +kernel), List.mem_of_getElem? (i := 1923) (by decide +kernel)⟩
theorem lw_p109 : lw_okq (⟨"StarTalesModel", "looksBoth", "(II)V"⟩, 64) := ⟨⟨by decide +kernel, by decide +kernel⟩, List.mem_of_getElem? (i := 1295) (by decide +kernel), List.mem_of_getElem? (i := 1930) (by decide +kernel), List.mem_of_getElem? (i := 1931) (by decide +kernel)⟩
theorem lw_p110 : lw_okq (⟨"StarTalesModel", "leastClouds", "(III)I"⟩, 64) := ⟨⟨by decide +kernel, by decide +kernel⟩, List.mem_of_getElem? (i := 1295) (by decide +kernel), List.mem_of_getElem? (i := 1938) (by decide +kernel), List.mem_of_getElem? (i := 1939) (by decide +kernel)⟩
theorem lw_p111 : lw_okq (⟨"StarTalesModel", "takesLog", "(I)Z"⟩, 64) := ⟨⟨by decide +kernel, by decide +kernel⟩, List.mem_of_getElem? (i := 1295) (by decide +kernel), List.mem_of_getElem? (i := 1946) (by decide +kernel), List.mem_of_getElem? (i := 1947) (by decide +kernel)⟩
def lw_privs_7 : List (MethodName × Nat) := [(⟨"StarTalesModel", "tellsApart", "(I)Z"⟩, 64), (⟨"StarTalesModel", "byLaw", "(II)I"⟩, 64), (⟨"StarTalesModel", "steers", "(IIZ)V"⟩, 64), (⟨"StarTalesModel", "drawsClouds", "()V"⟩, 64), (⟨"StarTalesModel", "steersFrom", "(II)I"⟩, 64), (⟨"StarTalesModel", "passes", "()V"⟩, 64), (⟨"StarTalesModel", "walks", "()V"⟩, 64), (⟨"StarTalesModel", "begins", "()V"⟩, 64), (⟨"StarTalesModel", "again", "()V"⟩, 64), (⟨"StarTalesModel", "sails", "(I[I)V"⟩, 64), (⟨"StarTalesModel", "comesBy", "(IIII)I"⟩, 64), (⟨"StarTalesModel", "laysTwo", "(III)Z"⟩, 64), (⟨"StarTalesModel", "comesByTwo", "(IIIIII)Z"⟩, 64), (⟨"StarTalesModel", "looksBoth", "(II)V"⟩, 64), (⟨"StarTalesModel", "leastClouds", "(III)I"⟩, 64), (⟨"StarTalesModel", "takesLog", "(I)Z"⟩, 64)]
theorem lw_r7 : ∀ q ∈ lw_privs_7, lw_okq q := List.forall_mem_cons.mpr ⟨lw_p96, List.forall_mem_cons.mpr ⟨lw_p97, List.forall_mem_cons.mpr ⟨lw_p98, List.forall_mem_cons.mpr ⟨lw_p99, List.forall_mem_cons.mpr ⟨lw_p100, List.forall_mem_cons.mpr ⟨lw_p101, List.forall_mem_cons.mpr ⟨lw_p102, List.forall_mem_cons.mpr ⟨lw_p103, List.forall_mem_cons.mpr ⟨lw_p104, List.forall_mem_cons.mpr ⟨lw_p105, List.forall_mem_cons.mpr ⟨lw_p106, List.forall_mem_cons.mpr ⟨lw_p107, List.forall_mem_cons.mpr ⟨lw_p108, List.forall_mem_cons.mpr ⟨lw_p109, List.forall_mem_cons.mpr ⟨lw_p110, List.forall_mem_cons.mpr ⟨lw_p111, fun _ h => absurd h List.not_mem_nil⟩⟩⟩⟩⟩⟩⟩⟩⟩⟩⟩⟩⟩⟩⟩⟩
theorem lw_p112 : lw_okq (⟨"StarTalesModel", "tapeNumber", "(I)I"⟩, 64) := ⟨⟨by decide +kernel, by decide +kernel⟩, List.mem_of_getElem? (i := 1295) (by decide +kernel), List.mem_of_getElem? (i := 1975) (by decide +kernel), List.mem_of_getElem? (i := 1976) (by decide +kernel)⟩
theorem lw_p113 : lw_okq (⟨"StarTalesModel", "landMany", "()I"⟩, 64) := ⟨⟨by decide +kernel, by decide +kernel⟩, List.mem_of_getElem? (i := 1295) (by decide +kernel), List.mem_of_getElem? (i := 1983) (by decide +kernel), List.mem_of_getElem? (i := 1984) (by decide +kernel)⟩
def lw_privs_8 : List (MethodName × Nat) := [(⟨"StarTalesModel", "tapeNumber", "(I)I"⟩, 64), (⟨"StarTalesModel", "landMany", "()I"⟩, 64)]
theorem lw_r8 : ∀ q ∈ lw_privs_8, lw_okq q := List.forall_mem_cons.mpr ⟨lw_p112, List.forall_mem_cons.mpr ⟨lw_p113, fun _ h => absurd h List.not_mem_nil⟩⟩
def lw_privs : List (MethodName × Nat) := lw_privs_1 ++ (lw_privs_2 ++ (lw_privs_3 ++ (lw_privs_4 ++ (lw_privs_5 ++ (lw_privs_6 ++ (lw_privs_7 ++ (lw_privs_8)))))))
def lw_tbl : List Cond := k2_sels lw_privs ++ tables_1
theorem lw_privs_ok : ∀ q ∈ lw_privs, lw_okq q := by
  show ∀ q ∈ lw_privs_1 ++ (lw_privs_2 ++ (lw_privs_3 ++ (lw_privs_4 ++ (lw_privs_5 ++ (lw_privs_6 ++ (lw_privs_7 ++ (lw_privs_8))))))), lw_okq q
  exact List.forall_mem_append.mpr ⟨lw_r1, List.forall_mem_append.mpr ⟨lw_r2, List.forall_mem_append.mpr ⟨lw_r3, List.forall_mem_append.mpr ⟨lw_r4, List.forall_mem_append.mpr ⟨lw_r5, List.forall_mem_append.mpr ⟨lw_r6, List.forall_mem_append.mpr ⟨lw_r7, lw_r8⟩⟩⟩⟩⟩⟩⟩
end
