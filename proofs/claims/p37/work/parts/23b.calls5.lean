/-! A call of which more is known, at this OB. -/
section ZCALLS
variable {p : Program} {l : Launch} {e : Env} {R : Room} {s : State} {m : MethodId} {args : Array Value} {below : List Frame} {meth : Method} {c : Code} {Q : State → Prop} {cc : ByteArray} {pc : Nat}
variable {OB : Nat → Nat} {D : va_G} {DA : Nat → ClassId} {cl : List vw_C} {FT : Nat → Nat → FieldType} {TY : List zTy} {PHI : List (List Nat)} {sz : Nat} {raw : Option Nat} {pu : Bool} {T0 : zTp} {H0 : Heap} {env0 : List Value} {nL : Nat} {st st' : zS} {T : zTp} {H : Heap} {locs : List Loc} {env : List Value} {ls : Array Slot} {stk : List Value} {g : zSig} {KX : State → Heap → Prop} {rest : List Value} {cells slots mc ms : Nat} {good : Nat → zS → Prop}
theorem z_afterP {QP : Option Value → Prop} {vals : List Value} {st0 : List Value} (hr : va_Run p l e R s m args below meth c H locs cells slots mc ms (F0 m pc ls st0) rest (fun st o t => z_Post OB D DA cl TY PHI sz g T vals.toArray st o t ∧ ∀ v, o = .returned v → QP v) (fun q => sz ≤ q)) (hS : va_S (fun q => sz ≤ q) H0 H locs)
    (kk : ∀ (v : Option Value) (s1 t : State) (H1 : Heap) (locs1 : List Loc), s1.heap = H → t.heap = H1 → z_Post OB D DA cl TY PHI sz g T vals.toArray s1 (.returned v) t → QP v → va_S (fun q => sz ≤ q) H0 H1 locs1 → W p l e R s m args below meth c H1 locs1 (cells + mc) (slots + ms) Q (F0 m (pc + 3) ls (v.toList ++ rest))) : W p l e R s m args below meth c H locs cells slots Q (F0 m pc ls st0) := by
  intro T1 hT X
  obtain ⟨v, st₀, t, T', L, h0, X', hL, e1, e2, hq, st⟩ := hr T1 hT X
  obtain ⟨hq, hqp⟩ := hq
  have hq2 := hq
  obtain ⟨vals2, v2, T2, q1, q2, q3, q4, q5, q6, q7, q8, q9⟩ := hq
  obtain ⟨t2, a1, b1⟩ := kk v st₀ t T'.heap (locs ++ L) h0 e1.symm hq2 (hqp v rfl) ⟨Nat.le_trans hS.1 (by rw [e1, ← h0]; exact q7), fun q h1 h2 => by
      rw [e1, q8 q (by rw [h0]; exact Nat.lt_of_lt_of_le h1 hS.1) h2, h0]; exact hS.2.1 q h1 h2, fun q hq => by
      rcases List.mem_append.mp hq with h | h
      · exact hS.2.2 q h
      · exact hL q h⟩ T' rfl X'
  exact ⟨t2, st t2 a1, b1⟩
end ZCALLS
section ZCALLS4
variable {p : Program} {l : Launch} {e : Env} {R : Room} {s : State} {m : MethodId} {args : Array Value} {below : List Frame} {meth : Method} {c : Code} {Q : State → Prop} {cc : ByteArray} {pc : Nat}
variable {OB : Nat → Nat} {D : va_G} {DA : Nat → ClassId} {cl : List vw_C} {FT : Nat → Nat → FieldType} {TY : List zTy} {PHI : List (List Nat)} {sz : Nat} {raw : Option Nat} {pu : Bool} {T0 : zTp} {H0 : Heap} {env0 : List Value} {nL : Nat} {st st' : zS} {T : zTp} {H : Heap} {locs : List Loc} {env : List Value} {ls : Array Slot} {stk : List Value} {g : zSig} {KXf : (Nat → Nat) → Nat → State → Heap → Prop} {rest : List Value} {cells slots : Nat} {good : Nat → zS → Prop}
variable {Ts TBL : List Cond} {own : String} {y : MethodName} {bytes : ByteArray} {maxL np i : Nat} {ret : Option FieldType}
theorem z_blindG {KX : State → Heap → Prop} {PX : Array Value → Prop} (hXp : z_KXp sz KX) : FrameBlind (fun a U => z_Pre OB D DA cl FT TY sz KX g T a U ∧ PX a) := by
  intro a U gf mk h
  obtain ⟨⟨vals, h1, h2, h3, h4, h5, h6, h7, h8, h9, h10⟩, hp⟩ := h
  exact ⟨⟨vals, h1, h2, h3, h4, h5, h6, h7, h8, va_K.moved (u := U) (U := U.calling gf mk a) (Vm.Alike.refl U.vm) h9, hXp.2.2 U (U.calling gf mk a) _ rfl h10⟩, hp⟩
theorem z_r_invG (hg : z_Good p l e R s m args below meth c Q OB D DA cl TY PHI sz raw pu T0 H0 env0 nL good) (hx : p.tables.exec = Jvm.exec) (hb : c.code = cc) (hml : c.maxLocals = nL) (hD : z_Dy s m args Ts own D cl DA (z_tys DA)) (hsz : sz ≤ H0.size) (hXp : z_KXp sz (KXf OB sz)) (hX : KXf OB sz s H0)
    {cix : Nat} {PX : Array Value → Prop} {QP : Option Value → Prop} (hok : ∀ T : zTp, Met l y (Cond.code y bytes maxL ret :: TBL) { frames := (g_rm g).1, cells := (g_mk g).1, slots := (g_mk g).2, locals := (g_rm g).2 } (fun a U => z_Pre OB D DA cl FT TY sz (KXf OB sz) g T a U ∧ PX a) (fun a st o t => z_Post OB D DA cl TY PHI sz g T a st o t ∧ ∀ v, o = .returned v → QP v) (g_mk g).1 (g_mk g).2 (fun q => sz ≤ q)) (hPX : ∀ T H locs env ls stk, z_sat OB D DA cl TY PHI sz raw pu T0 H0 env0 nL st T H locs env ls stk → ∀ va vr : List Value, stk = va.reverse ++ vr → va.length = (g_prm g).length → PX va.toArray) (hlk : z_lk Ts own 0 i y bytes maxL ret np) (hgd : ∀ w ∈ TBL, w ∈ Ts ∧ z_gw w = true) (hci : ∃ r, cl[cix]? = some r ∧ r.1 = y.cls)
    (hd : decode cc pc = .ok (z_ins 0 i, 3)) {L : List zS} (h : z_inv TY PHI cl FT R pu 0 cix maxL np g st = some L) (hall : ∀ st' ∈ L, ∀ T1 H1 locs1 env1 ls1 stk1, z_sat OB D DA cl TY PHI sz raw pu T0 H0 env0 nL st' T1 H1 locs1 env1 ls1 stk1 → (∃ (v : Option Value) (vr : List Value), stk1 = v.toList ++ vr ∧ QP v) → W p l e R s m args below meth c H1 locs1 (z_C st').1 (z_C st').2 Q (F0 m (pc + 3) ls1 stk1)) : good pc st := by
  refine (hg _ _).mpr fun T H locs env ls stk hs => ?_
  unfold z_inv at h
  obtain ⟨hcode, hini, hmh, hnp, hkind⟩ := hlk
  obtain ⟨hts, hown, hK, htys⟩ := hD
  have hmem := hs.2.2.2.2.2.2.2.2.2
  have hH : sz ≤ H.size := Nat.le_trans hsz hmem.2.2.2.2.1
  have hXH : KXf OB sz s H := hXp.2.1 s H0 H hX hmem.2.2.2.2.1 hmem.2.2.2.2.2.1
  have hnp2 : ∀ sig, parseMethodDescriptor y.desc = some sig → np = sig.parameters.length := by
    intro sig hsig
    rw [hsig] at hnp
    exact (Option.some.inj hnp).symm
  have hwsG : ∀ w ∈ (Cond.code y bytes maxL ret :: TBL), ∀ (a' : Array Value) (U : State), s.WarmedH U.vm → w.before a' U = true := by
    refine z_pay hts (fun w hw => ?_)
    rcases List.mem_cons.mp hw with rfl | hw
    · exact ⟨hcode, rfl⟩
    · exact ⟨(hgd w hw).1, (hgd w hw).2⟩
  -- the common part
  have common : ∀ (hc : z_cal TY PHI cl FT R pu maxL g st = some L), ∃ (va vr : List Value), stk = va.reverse ++ vr ∧ va.length = (g_prm g).length ∧ (∀ U : State, U.heap = H → s.WarmedH U.vm → (z_Pre OB D DA cl FT TY sz (KXf OB sz) g T va.toArray U ∧ PX va.toArray)) ∧
      (vr.map fun v => v.category).sum ≤ 8 ∧ (g_rm g).1 + 1 ≤ R.frames ∧ 8 + (maxL + 11) + (g_rm g).2 ≤ R.locals ∧ (z_C st).1 + (g_mk g).1 ≤ R.cells ∧ (z_C st).2 + (g_mk g).2 ≤ R.slots ∧
      ((g_raw g).isSome = true → ∃ b : Nat, va[0]? = some (.ref b)) ∧ (∀ (a n : Nat), (g_prm g).length = n + 1 → (z_S st)[n]? = some a → ∃ v, va[0]? = some v ∧ env[a]? = some v) ∧
      ∀ (v : Option Value) (s1 t : State) (H1 : Heap) (locs1 : List Loc), s1.heap = H → t.heap = H1 → z_Post OB D DA cl TY PHI sz g T va.toArray s1 (.returned v) t → QP v → va_S (fun q => sz ≤ q) H0 H1 locs1 → W p l e R s m args below meth c H1 locs1 ((z_C st).1 + (g_mk g).1) ((z_C st).2 + (g_mk g).2) Q (F0 m (pc + 3) ls (v.toList ++ vr)) := by
    intro hc
    unfold z_cal at hc
    split at hc
    · rename_i As rs hpop
      obtain ⟨va, vr, rfl, w1, w2, w3, w4⟩ := z_popn_ok _ hpop hs.2.2.2.1
      split at hc
      · rename_i st1 gs hgl
        have hs0 := z_sat_stS hs w3
        obtain ⟨x, g1, ⟨x1, x2, x3, x4, x5, x6⟩, g3, g4⟩ := z_gls_ok hgl hs0
        split at hc
        · rename_i n hn
          cases hcc : (Nat.ble n 8 && z_pck FT cl g As gs st1 && Nat.ble ((z_C st1).1 + (g_mk g).1) R.cells && Nat.ble ((z_C st1).2 + (g_mk g).2) R.slots && Nat.ble ((g_rm g).1 + 1) R.frames && Nat.ble (8 + (maxL + 11) + (g_rm g).2) R.locals && (Nat.beq (g_ph g) 0 || (Nat.beq (z_ph st1) 0 || (Nat.blt (z_ph st1) 1000 && Nat.blt (g_ph g) 1000))) && (g_pur g || !pu)) with
          | false => rw [hcc] at hc; cases hc
          | true =>
            rw [hcc] at hc
            simp only [Bool.and_eq_true] at hcc
            obtain ⟨⟨⟨⟨⟨⟨⟨c1, c2⟩, c3⟩, c4⟩, c5⟩, c6⟩, c7⟩, c8⟩ := hcc
            have hcat := z_csum_ok hn g1 (z_stk_app w3)
            have hA2 : ∀ (j a : Nat), As[j]? = some a → ∃ x', va[j]? = some x' ∧ (env ++ x)[a]? = some x' := fun j a hj => by
              obtain ⟨v, e1, e2⟩ := w4 j a hj
              exact ⟨v, e1, z_app e2⟩
            have hgs : ∀ (i : Nat) (q : zLoc × zV) (w : Nat), (g_loc g)[i]? = some q → gs[i]? = some w → ∃ v : Value, (env ++ x)[w]? = some v ∧ z_lv D cl H (va[q.1.1]?) q.1 v := by
              intro i q w hi hw
              obtain ⟨v, d, m1, m2, m3⟩ := g4 i q w hi hw
              obtain ⟨v2, n1, n2⟩ := hA2 _ _ m2
              rw [n2, ← n1] at m3
              exact ⟨v, m1, m3⟩
            have hCst : z_C st1 = z_C st := x4
            have hlen : va.length = (g_prm g).length := w1
            refine ⟨va, vr, rfl, hlen, fun U hU1 hU2 => ⟨z_pre_ok (w2.trans w1.symm) hlen hA2 g3 hgs g1 c2 hK hXH hXp hH U hU1 hU2, hPX _ _ _ _ _ _ hs va vr rfl hlen⟩, by rw [hcat]; exact Nat.le_of_ble_eq_true c1, Nat.le_of_ble_eq_true c5, Nat.le_of_ble_eq_true c6, by rw [← hCst]; exact Nat.le_of_ble_eq_true c3, by rw [← hCst]; exact Nat.le_of_ble_eq_true c4, fun hr => ?_, fun a n hpn ha => ?_, fun v s1 t H1 locs1 y1 y2 y3 yq y4 => ?_⟩
            · cases hrr : g_raw g with
              | none => rw [hrr] at hr; cases hr
              | some ci =>
                obtain ⟨vals, z1, _, _, z4, _⟩ := z_pre_ok (KX := KXf OB sz) (w2.trans w1.symm) hlen hA2 g3 hgs g1 c2 hK hXH hXp hH { s with heap := H } rfl (State.WarmedH.refl s)
                have : va = vals := by have := congrArg Array.toList z1; simpa using this
                subst this
                obtain ⟨a, r, V, z5, _⟩ := z4 ci hrr
                exact ⟨a, z5⟩
            · obtain ⟨h5, h6⟩ := z_cond hpop
              cases h6
              have hle := Nat.le_of_ble_eq_true h5
              have h0 : ((List.take (g_prm g).length (z_S st)).reverse)[0]? = some a := by
                rw [hpn]
                rw [hpn] at hle
                rw [List.getElem?_reverse (by simp; omega)]
                have : (List.take (n + 1) (z_S st)).length - 1 - 0 = n := by simp; omega
                rw [this, List.getElem?_take_of_lt (by omega)]
                exact ha
              exact w4 0 a h0
            · have hph : g_ph g = 0 ∨ (z_ph st1 = 0 ∨ (Nat.blt (z_ph st1) 1000 = true ∧ Nat.blt (g_ph g) 1000 = true)) := by
                rw [Bool.or_eq_true, Bool.or_eq_true, Bool.and_eq_true] at c7
                exact c7.imp z_beq (fun h => h.imp z_beq id)
              have hpu : g_pur g = true ∨ pu = false := by
                rw [Bool.or_eq_true] at c8
                exact c8.imp id (fun h => by simpa using h)
              have hraw : ∀ ci, g_raw g = some ci → ∃ a, As[0]? = some a ∧ z_isx st1 a = true := by
                intro ci hci
                unfold z_pck at c2
                simp only [Bool.and_eq_true] at c2
                have c2 := c2.1.2
                rw [hci] at c2
                have c2 : (match As[0]?, cl[ci]? with
                  | some a, some r => (z_X st1).any (fun p => Nat.beq p.1 a && Nat.beq p.2 ci) && (List.range r.2.2).all (fun k => !(z_zf (FT ci k)) || (match z_ffind st1 a ci k with
                    | some w => (match z_get (z_V st1) w with
                      | some (.inl z) => z_ile 0 z.1 && z_ile z.2 0
                      | _ => false)
                    | none => false))
                  | _, _ => false) = true := c2
                split at c2
                · rename_i a r ha hr
                  rw [Bool.and_eq_true] at c2
                  obtain ⟨q, hq, hq2⟩ := List.any_eq_true.mp c2.1
                  rw [Bool.and_eq_true] at hq2
                  exact ⟨a, ha, List.any_eq_true.mpr ⟨q, hq, hq2.1⟩⟩
                · cases c2
              obtain ⟨T', P, z1, z2, z3, z4, z5⟩ := z_bas_ok g1 (w2.trans w1.symm) hA2 hraw hph hpu y1 y2 y4 y3
              obtain ⟨L1, hL1, hL2⟩ := z_foldr hc z2
              obtain ⟨st', env', u1, u2, u3⟩ := z_cas_ok (w2.trans w1.symm) hA2 g3 hgs z1 z3 hL1
              have kk := hall st' (hL2 st' u1) T' H1 locs1 env' ls _ u3 ⟨v, vr, rfl, yq⟩
              rw [u2, hCst] at kk
              exact kk
        · cases hc
      · cases hc
    · cases hc
  · skip
    change cond (Nat.beq (g_prm g).length (np + 1) && (g_raw g).isNone && (match (z_S st)[np]? with
      | some a => z_rcv TY st cix a
      | none => false)) (z_cal TY PHI cl FT R pu maxL g st) none = some L at h
    obtain ⟨k1, k2, k3⟩ := hkind
    cases hcond : (Nat.beq (g_prm g).length (np + 1) && (g_raw g).isNone && (match (z_S st)[np]? with
      | some a => z_rcv TY st cix a
      | none => false)) with
    | false => rw [hcond] at h; cases h
    | true =>
      rw [hcond] at h
      have h : z_cal TY PHI cl FT R pu maxL g st = some L := h
      obtain ⟨va, vr, rfl, w1, w2, w3, w4, w5, w6, w7, w8, w9, w10⟩ := common h
      simp only [Bool.and_eq_true] at hcond
      obtain ⟨⟨d1, d2⟩, d3⟩ := hcond
      have hpl := z_beq d1
      cases hsn : (z_S st)[np]? with
      | none => rw [hsn] at d3; cases d3
      | some a =>
        rw [hsn] at d3
        have d3 : z_rcv TY st cix a = true := d3
        unfold z_rcv at d3
        split at d3
        · rename_i t ht
          split at d3
          · rename_i o hto
            obtain ⟨ci, fl⟩ := o
            have hcc : ci = cix := z_beq d3
            subst hcc
            obtain ⟨b, r, V, y1, y2, y3, y4, ⟨cell, y5, y6, y7, y8⟩, y9⟩ := z_obj hs ht hto
            obtain ⟨v0, e1, e2⟩ := w9 a np hpl hsn
            rw [y1] at e2
            cases e2
            obtain ⟨r2, hr2, hr3⟩ := hci
            rw [y3] at hr2
            cases hr2
            cases va with
            | nil => simp at e1
            | cons v0 As2 =>
              have : v0 = .ref b := by simpa using e1
              subst this
              have hAl : As2.length = np := by
                have : (Value.ref b :: As2).length = (g_prm g).length := w1
                rw [hpl] at this
                simpa using this
              have hstk : (Value.ref b :: As2).reverse ++ vr = As2.reverse ++ .ref b :: vr := by simp
              rw [hstk]
              refine z_afterP (va_runV (b := b) (As := As2) (rest := vr) (C := y.cls) (n := np) ⟨hx, hb, hml, hown, hts⟩ (hok T) ⟨⟨rfl, rfl, w4, w5, hwsG, List.mem_cons_self, hts _ hcode, hts _ hini, hmh, hnp2, hts _ k1⟩, hts _ k2, hts _ k3⟩ ⟨z_blindG hXp, ⟨cell, y5, by rw [y7]; rfl, ?_⟩, w2⟩ rfl hAl ?_ rfl (lv_room w3) hd ⟨w6, w7⟩) hmem.2.2.2.2 w10
              · rw [← hr3, y6]; exact (hK.1 _ _ y3).2.1
              · obtain ⟨lv, z1, _⟩ := hs.2.2.1; exact z1.1
          · cases d3
        · cases d3
end ZCALLS4
