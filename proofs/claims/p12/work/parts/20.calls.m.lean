/-! 20.calls, 20b.copy, 21.calls2, 22.calls3, 23.calls4, 24.step, 25.step2, 26.cuts, 27.method, 28.closed -/
section
/-! Calls. -/
def z_popn (n : Nat) (S : List Nat) : Option (List Nat × List Nat) := cond (Nat.ble n S.length) (some ((S.take n).reverse, S.drop n)) none
def z_csum (st : zS) : List Nat → Option Nat
  | [] => some 0
  | d :: S => match z_csum st S with
    | some n => cond (z_isi st d || z_isr st d) (some (n + 1)) (match z_get (z_V st) d with
      | some (.inr (.inr 0)) => some (n + 2)
      | _ => none)
    | none => none
/-- the arguments are such as are asked for -/
def z_pck (FT : Nat → Nat → FieldType) (cl : List vw_C) (g : zSig) (As gs : List Nat) (st : zS) : Bool :=
  (List.range (g_prm g).length).all (fun j => match (g_prm g)[j]?, As[j]? with
    | some c, some a => (match g_raw g with
        | some _ => Nat.beq j 0
        | none => false) || (match z_get (z_V st) a with
        | some c' => z_le c' c
        | none => false)
    | _, _ => false) &&
  (match g_raw g with
    | none => true
    | some ci => (match As[0]?, cl[ci]? with
      | some a, some r => (z_X st).any (fun p => Nat.beq p.1 a && Nat.beq p.2 ci) && (List.range r.2.2).all (fun k => !(z_zf (FT ci k)) || (match z_ffind st a ci k with
        | some w => (match z_get (z_V st) w with
          | some (.inl z) => z_ile 0 z.1 && z_ile z.2 0
          | _ => false)
        | none => false))
      | _, _ => false)) &&
  (List.range (g_loc g).length).all (fun i => match (g_loc g)[i]?, gs[i]? with
    | some q, some w => (match z_get (z_V st) w with
      | some c => z_le c q.2
      | none => false)
    | _, _ => false)
/-- what is known of a final field of a typed object -/
def z_fnl (TY : List zTy) (cl : List vw_C) (st : zS) (f : Nat × Nat × Nat × Nat) : Bool := match z_get (z_V st) f.1 with
  | some (.inr (.inl t)) => (match TY[t]?, cl[f.2.1]? with
    | some (.inl o), some r => Nat.beq o.1 f.2.1 && (r.2.1 f.2.2.1).2.2.2
    | _, _ => false)
  | _ => false
/-- behind the call, whatever the end -/
def z_bas (TY : List zTy) (cl : List vw_C) (PHI : List (List Nat)) (g : zSig) (As : List Nat) (st : zS) : zS :=
  (z_L st, z_S st, z_n st, cond (Nat.beq (g_ph g) 0) (z_V st) ((z_V st).map (fun q => (q.1, z_mp PHI (g_ph g) q.2))),
    cond (g_pur g) (z_F st) ((z_F st).filter (fun q => z_fnl TY cl st q || (z_isx st q.1 && (match g_raw g, As[0]? with
      | some _, some a => !(Nat.beq q.1 a)
      | _, _ => true)))), cond (g_pur g) (z_E st) [], z_R st, (match g_raw g, As[0]? with
      | some _, some a => (z_X st).filter (fun p => !(Nat.beq p.1 a))
      | _, _ => z_X st), ((z_C st).1 + (g_mk g).1, (z_C st).2 + (g_mk g).2), cond (Nat.beq (g_ph g) 0) (z_ph st) (cond (Nat.beq (z_ph st) 0) (g_ph g) (g_ph g * 1000 + z_ph st)))
/-- what an end says of the arguments: nothing comes where it can't be -/
def z_rfA (As : List Nat) : List (Nat × zV) → zS → Option (List zS)
  | [], st => some [st]
  | q :: r, st => match As[q.1]? with
    | some a => (match z_get (z_V st) a, q.2 with
      | some (.inl x), .inl y => cond (z_ile (z_max x.1 y.1) (z_min x.2 y.2)) (z_rfA As r (z_mor st (z_S st) [(a, .inl (z_max x.1 y.1, z_min x.2 y.2))] [])) (some [])
      | _, c => z_rfA As r (z_mor st (z_S st) [(a, c)] []))
    | none => none
def z_rel2 (w g : Nat) (h : zV × Option Int × Option Int) : List (Nat × Nat × Int) :=
  (match h.2.1 with
    | some k => [(w, g, k)]
    | none => []) ++ (match h.2.2 with
    | some k => [(g, w, -k)]
    | none => [])
/-- what is known of a place's new value: by itself, and by the old one -/
def z_rfV (st : zS) (gi : Nat) (h : zV × Option Int × Option Int) : zV := match h.1, z_get (z_V st) gi with
  | .inl r, some (.inl a) => .inl (match h.2.1 with
    | some k => z_max r.1 (a.1 + k)
    | none => r.1, match h.2.2 with
    | some k => z_min r.2 (a.2 + k)
    | none => r.2)
  | c, _ => c
def z_emp (c : zV) : Bool := match c with
  | .inl r => !(z_ile r.1 r.2)
  | _ => false
/-- what an end says of the places -/
def z_rfL (TY : List zTy) (As : List Nat) : List ((zLoc × zV) × Nat × (zV × Option Int × Option Int)) → zS → Option (List zS)
  | [], st => some [st]
  | q :: r, st => cond (z_emp (z_rfV st q.2.1 q.2.2)) (some []) (match As[q.1.1.1]? with
    | some a => (match q.1.1.2.2.2 with
      | none => z_rfL TY As r (z_L st, z_S st, z_n st + 1, (z_n st, z_rfV st q.2.1 q.2.2) :: z_V st, (a, q.1.1.2.1, q.1.1.2.2.1, z_n st) :: z_F st, z_E st, z_rel2 (z_n st) q.2.1 q.2.2 ++ z_R st, z_X st, z_C st, z_ph st)
      | some c => (match z_ffind st a q.1.1.2.1 q.1.1.2.2.1 with
        | some w => cond (Nat.ble c 1000000) (z_rfL TY As r (z_L st, z_S st, z_n st + 2, (z_n st + 1, z_rfV st q.2.1 q.2.2) :: (z_n st, .inl ((c : Int), (c : Int))) :: z_V st, z_F st, (w, z_n st, z_n st + 1) :: z_E st, z_rel2 (z_n st + 1) q.2.1 q.2.2 ++ z_R st, z_X st, z_C st, z_ph st)) none
        | none => (match z_get (z_V st) a with
        | some (.inr (.inl t)) => (match TY[t]? with
          | some (.inl o) => (match o.2[q.1.1.2.2.1]? with
            | some cf => cond (Nat.beq o.1 q.1.1.2.1 && Nat.ble c 1000000) (z_rfL TY As r (z_L st, z_S st, z_n st + 3, (z_n st + 2, z_rfV st q.2.1 q.2.2) :: (z_n st + 1, .inl ((c : Int), (c : Int))) :: (z_n st, cf) :: z_V st, (a, q.1.1.2.1, q.1.1.2.2.1, z_n st) :: z_F st, (z_n st, z_n st + 1, z_n st + 2) :: z_E st, z_rel2 (z_n st + 2) q.2.1 q.2.2 ++ z_R st, z_X st, z_C st, z_ph st)) none
            | none => none)
          | _ => none)
        | _ => none)))
    | none => none)
def z_cas (TY : List zTy) (cl : List vw_C) (PHI : List (List Nat)) (g : zSig) (As gs : List Nat) (st : zS) (P : zP) : Option (List zS) := match z_rfA As P.1 (z_bas TY cl PHI g As st) with
  | some [st1] => (match z_rfL TY As ((g_loc g).zip (gs.zip P.2.2.1)) st1 with
    | some [st2] => (match z_rfL TY As (P.2.2.2.map (fun q => (q, (As[q.1.1]?).getD 0, q.2, none, none))) st2 with
      | some [st3] => (match P.2.1 with
        | none => some [st3]
        | some c => some [z_psh st3 (z_S st3) c []])
      | some _ => some []
      | none => none)
    | some _ => some []
    | none => none)
  | some _ => some []
  | none => none
def z_cal (TY : List zTy) (PHI : List (List Nat)) (cl : List vw_C) (FT : Nat → Nat → FieldType) (R : Room) (pu : Bool) (maxL : Nat) (g : zSig) (st : zS) : Option (List zS) := match z_popn (g_prm g).length (z_S st) with
  | some (As, rest) => (match z_gls TY cl As (g_loc g) (z_stS st rest) with
    | some (st1, gs) => (match z_csum st1 rest with
      | some n => cond (Nat.ble n 8 && z_pck FT cl g As gs st1 && Nat.ble ((z_C st1).1 + (g_mk g).1) R.cells && Nat.ble ((z_C st1).2 + (g_mk g).2) R.slots && Nat.ble ((g_rm g).1 + 1) R.frames && Nat.ble (8 + (maxL + 11) + (g_rm g).2) R.locals && (Nat.beq (g_ph g) 0 || (Nat.beq (z_ph st1) 0 || (Nat.blt (z_ph st1) 1000 && Nat.blt (g_ph g) 1000))) && (g_pur g || !pu))
          ((g_pst g).foldr (fun P acc => match z_cas TY cl PHI g As gs st1 P, acc with
            | some a, some b => some (a ++ b)
            | _, _ => none) (some [])) none
      | none => none)
    | none => none)
  | none => none
section ZCALLS
variable {p : Program} {l : Launch} {e : Env} {R : Room} {s : State} {m : MethodId} {args : Array Value} {below : List Frame} {meth : Method} {c : Code} {Q : State → Prop} {cc : ByteArray} {pc : Nat}
variable {OB : Nat → Nat} {D : va_G} {DA : Nat → ClassId} {cl : List vw_C} {FT : Nat → Nat → FieldType} {TY : List zTy} {PHI : List (List Nat)} {sz : Nat} {raw : Option Nat} {pu : Bool} {T0 : zTp} {H0 : Heap} {env0 : List Value} {nL : Nat} {st st' : zS} {T : zTp} {H : Heap} {locs : List Loc} {env : List Value} {ls : Array Slot} {stk : List Value} {g : zSig} {KX : State → Heap → Prop} {rest : List Value} {cells slots mc ms : Nat} {good : Nat → zS → Prop}
theorem z_after {vals : List Value} {st0 : List Value} (hr : va_Run p l e R s m args below meth c H locs cells slots mc ms (F0 m pc ls st0) rest (z_Post OB D DA cl TY PHI sz g T vals.toArray) (fun q => sz ≤ q)) (hS : va_S (fun q => sz ≤ q) H0 H locs)
    (kk : ∀ (v : Option Value) (s1 t : State) (H1 : Heap) (locs1 : List Loc), s1.heap = H → t.heap = H1 → z_Post OB D DA cl TY PHI sz g T vals.toArray s1 (.returned v) t → va_S (fun q => sz ≤ q) H0 H1 locs1 → W p l e R s m args below meth c H1 locs1 (cells + mc) (slots + ms) Q (F0 m (pc + 3) ls (v.toList ++ rest))) : W p l e R s m args below meth c H locs cells slots Q (F0 m pc ls st0) := by
  intro T1 hT X
  obtain ⟨v, st₀, t, T', L, h0, X', hL, e1, e2, hq, st⟩ := hr T1 hT X
  have hq2 := hq
  obtain ⟨vals2, v2, T2, q1, q2, q3, q4, q5, q6, q7, q8, q9⟩ := hq
  obtain ⟨t2, a1, b1⟩ := kk v st₀ t T'.heap (locs ++ L) h0 e1.symm hq2 ⟨Nat.le_trans hS.1 (by rw [e1, ← h0]; exact q7), fun q h1 h2 => by
      rw [e1, q8 q (by rw [h0]; exact Nat.lt_of_lt_of_le h1 hS.1) h2, h0]; exact hS.2.1 q h1 h2, fun q hq => by
      rcases List.mem_append.mp hq with h | h
      · exact hS.2.2 q h
      · exact hL q h⟩ T' rfl X'
  exact ⟨t2, st t2 a1, b1⟩
theorem z_mp0 {k : zV} : z_mp PHI 0 k = k := by
  match k with
  | .inl r => rfl
  | .inr (.inl t) => rfl
  | .inr (.inr k) => rfl
theorem z_popn_ok : ∀ (n : Nat) {S As rest : List Nat} {stk : List Value}, z_popn n S = some (As, rest) → z_stk env S stk → ∃ (va vr : List Value), stk = va.reverse ++ vr ∧ va.length = n ∧ As.length = n ∧ z_stk env rest vr ∧ ∀ (j : Nat) (a : Nat), As[j]? = some a → ∃ v, va[j]? = some v ∧ env[a]? = some v := by
  intro n S As rest stk h hs
  obtain ⟨h1, h2⟩ := z_cond h
  cases h2
  have h1 := Nat.le_of_ble_eq_true h1
  have key : ∀ (n : Nat) (S : List Nat) (stk : List Value), n ≤ S.length → z_stk env S stk → ∃ (a b : List Value), stk = a ++ b ∧ a.length = n ∧ z_stk env (S.drop n) b ∧ ∀ (j d : Nat), (S.take n)[j]? = some d → ∃ v, a[j]? = some v ∧ env[d]? = some v := by
    intro n
    induction n with
    | zero => intro S stk _ h; exact ⟨[], stk, rfl, rfl, h, fun j d hj => by simp at hj⟩
    | succ n ih =>
      intro S stk hn h
      cases S with
      | nil => simp at hn
      | cons x S =>
        obtain ⟨v, k, rfl, e1, hk⟩ := h
        obtain ⟨a, b, rfl, g2, g3, g4⟩ := ih S k (by simpa using hn) hk
        refine ⟨v :: a, b, rfl, by simp [g2], g3, fun j d hj => ?_⟩
        cases j with
        | zero =>
          have : x = d := by simpa using hj
          subst this
          exact ⟨v, rfl, e1⟩
        | succ j =>
          obtain ⟨w, e2, e3⟩ := g4 j d (by simpa using hj)
          exact ⟨w, by simpa using e2, e3⟩
  obtain ⟨a, b, g1, g2, g3, g4⟩ := key n S stk h1 hs
  refine ⟨a.reverse, b, by rw [List.reverse_reverse]; exact g1, by simp [g2], by simp [Nat.min_eq_left h1], g3, fun j d hj => ?_⟩
  have hlt : j < n := by
    have := (List.getElem?_eq_some_iff.mp hj).1
    simp at this; omega
  have hlen : (S.take n).length = n := by simp [Nat.min_eq_left h1]
  rw [List.getElem?_reverse (by omega)] at hj
  obtain ⟨v, e1, e2⟩ := g4 _ d hj
  refine ⟨v, ?_, e2⟩
  rw [List.getElem?_reverse (by omega)]
  rw [hlen] at e1
  rw [g2]
  exact e1
theorem z_csum_ok : ∀ {S : List Nat} {n : Nat} {k : List Value}, z_csum st S = some n → z_sat OB D DA cl TY PHI sz raw pu T0 H0 env0 nL st T H locs env ls stk → z_stk env S k → (k.map fun v => v.category).sum = n
  | [], n, k, h, _, hk => by
    have hk : k = [] := hk
    subst hk
    cases h
    rfl
  | d :: S, n, k, h, hs, hk => by
    obtain ⟨v, k2, rfl, e1, hk2⟩ := hk
    unfold z_csum at h
    cases h1 : z_csum st S with
    | none => rw [h1] at h; cases h
    | some n1 =>
      rw [h1] at h
      have ih := z_csum_ok h1 hs hk2
      have h : cond (z_isi st d || z_isr st d) (some (n1 + 1)) (match z_get (z_V st) d with
        | some (.inr (.inr 0)) => some (n1 + 2)
        | _ => none) = some n := h
      cases hc : (z_isi st d || z_isr st d) with
      | true =>
        rw [hc] at h
        cases h
        have := z_cat_ok hc hs e1
        simp [this, ih, Nat.add_comm]
      | false =>
        rw [hc] at h
        have h : (match z_get (z_V st) d with
          | some (.inr (.inr 0)) => some (n1 + 2)
          | _ => none) = some n := h
        split at h
        · rename_i hv
          cases h
          obtain ⟨w, e2, x, rfl⟩ := z_get_ok hs.2.2.2.2.1 hv
          rw [e1] at e2
          cases e2
          have : (Value.long x).category = 2 := rfl
          simp [this, ih, Nat.add_comm]
        · cases h
end ZCALLS
end
section
/-! System.arraycopy of ints, from place 0 to place 0. -/
theorem z_nfw : nativeFrameWords "java/lang/System" "arraycopy" 5 + 11 ≤ 60 := by decide +kernel
/-- all entries are ints -/
def z_alli (q : Nat × (Nat × Nat) × List ((Nat × Nat) × zV)) : Bool := Nat.beq q.1 0 && q.2.2.any (fun g => Nat.ble g.1.1 0 && Nat.ble q.2.1.2 (g.1.2 + 1) && (match g.2 with
  | .inl _ => true
  | _ => false))
def z_acp (TY : List zTy) (RO : List Nat) (R : Room) (st : zS) : Option zS := match z_S st with
  | n :: dp :: d :: sp :: a :: S => (match z_csum st S, z_get (z_V st) n, z_get (z_V st) dp, z_get (z_V st) sp, z_get (z_V st) d, z_get (z_V st) a with
    | some k, some (.inl rn), some (.inl rd), some (.inl rs), some (.inr (.inl td)), some (.inr (.inl ta)) => (match TY[td]?, TY[ta]? with
      | some (.inr qd), some (.inr qa) => cond (z_ile 0 rd.1 && z_ile rd.2 0 && z_ile 0 rs.1 && z_ile rs.2 0 && z_ile 0 rn.1 && z_ile rn.2 (qd.2.1.1 : Int) && z_ile rn.2 (qa.2.1.1 : Int) && z_alli qd && z_alli qa && (!(RO.any (fun x => Nat.beq x td)) && !(zj_prot TY td)) &&
          qd.2.2.all (fun g => qa.2.2.any (fun f => Nat.ble f.1.1 g.1.1 && Nat.ble g.1.2 f.1.2 && z_le f.2 g.2)) && Nat.ble 1 R.frames && Nat.ble (k + 60) R.locals)
          (some (z_wr st S ((z_F st).filter (fun f => z_apt st f.1 d)) ((z_E st).filter (fun f => z_apt st f.1 d)))) none
      | _, _ => none)
    | _, _, _, _, _, _ => none)
  | _ => none
theorem z_arrC {c : ClassId} {n : Nat} {f g : Nat → Value} (h : ∀ j, j < n → f j = g j) : arrV c n f = arrV c n g := by
  have : (Array.ofFn (n := n) fun j => f j.val) = Array.ofFn (n := n) fun j => g j.val := by
    congr 1
    funext j
    exact h j.val j.isLt
  unfold arrV
  rw [this]
def z_int (v : Value) : Int32 := match v with
  | .int x => x
  | _ => 0
theorem z_alli_ok {OB : Nat → Nat} {T : zTp} {q : Nat × (Nat × Nat) × List ((Nat × Nat) × zV)} (h : z_alli q = true) {n : Nat} {f : Nat → Value} (hn : n ≤ q.2.1.2) (hf : ∀ g ∈ q.2.2, ∀ j, j < n → g.1.1 ≤ j → j ≤ g.1.2 → z_v OB T g.2 (f j)) : q.1 = 0 ∧ ∀ j, j < n → f j = .int (z_int (f j)) := by
  unfold z_alli at h
  rw [Bool.and_eq_true] at h
  refine ⟨z_beq h.1, fun j hj => ?_⟩
  obtain ⟨g, hg, h2⟩ := List.any_eq_true.mp h.2
  simp only [Bool.and_eq_true] at h2
  obtain ⟨⟨h3, h4⟩, h5⟩ := h2
  have h3 := Nat.le_of_ble_eq_true h3
  have h4 := Nat.le_of_ble_eq_true h4
  have hv := hf g hg j hj (by omega) (by omega)
  obtain ⟨gr, gv⟩ := g
  cases gv with
  | inl r => obtain ⟨x, e, _⟩ := hv; rw [e]; rfl
  | inr u => cases h5
section ZCOPY
variable {p : Program} {l : Launch} {e : Env} {R : Room} {s : State} {m : MethodId} {args : Array Value} {below : List Frame} {meth : Method} {c : Code} {Q : State → Prop} {cc : ByteArray} {pc : Nat}
variable {OB : Nat → Nat} {D : va_G} {DA : Nat → ClassId} {cl : List vw_C} {TY : List zTy} {PHI : List (List Nat)} {sz : Nat} {raw : Option Nat} {pu : Bool} {T0 : zTp} {H0 : Heap} {env0 : List Value} {nL : Nat} {st st' : zS} {good : Nat → zS → Prop}
variable {Ts : List Cond} {own : String} {tys : List (ClassId × FieldType)} {RO : List Nat}
variable {T : zTp} {H : Heap} {locs : List Loc} {env : List Value} {ls : Array Slot} {stk : List Value} {cells slots : Nat} {rest : List Value}
/-- the row: the other cells stay -/
theorem z_cprow (hx : p.tables.exec = Jvm.exec) (hb : c.code = cc) (hml : c.maxLocals = ls.size) (hD : z_Dy s m args Ts own D cl DA (z_tys DA)) {i : Nat} (w1 : Cond.methodLink own i arraycopyName ∈ Ts) (w2 : Cond.native arraycopyName ∈ Ts) (w3 : Cond.static arraycopyName ∈ Ts) (w4 : Cond.initialized "java/lang/System" ∈ Ts)
    {a0 a n0 n1 : Nat} {f g : Nat → Int32} (hc0 : H[a0]? = some (arrV (DA 0) n0 (fun j => .int (f j)))) (hc1 : H[a]? = some (arrV (DA 0) n1 (fun j => .int (g j)))) {sp dp n : Int32} (h1 : sp.toInt = 0) (h2 : dp.toInt = 0) (h3 : 0 ≤ n.toInt) (h4 : n.toInt.toNat ≤ n0) (h5 : n.toInt.toNat ≤ n1)
    (hframes : 1 ≤ R.frames) (hlocals : (rest.map fun v => v.category).sum + 60 ≤ R.locals) (hd : decode cc pc = .ok (.invokestatic i, 3))
    (kk : ∀ (H1 : Heap) (L : List Loc), (∀ q ∈ L, q.base = a) → H1[a]? = some (arrV (DA 0) n1 (fun j => .int (va_cpy f g 0 0 n.toInt.toNat j))) → H1.size = H.size → (∀ b : Nat, b ≠ a → H1[b]? = H[b]?) → W p l e R s m args below meth c H1 (locs ++ L) cells slots Q (F0 m (pc + 3) ls rest)) : W p l e R s m args below meth c H locs cells slots Q (F0 m pc ls (.int n :: .int dp :: .ref a :: .int sp :: .ref a0 :: rest)) := by
  intro T1 hT X
  obtain ⟨hts, hown, hK, hty⟩ := hD
  have hA := hK.2 0 _ (hty 0 (by omega))
  obtain ⟨-, k0, hk0, cm0, hkk0⟩ := hA.1 n0 (fun j => .int (f j))
  obtain ⟨-, k1, hk1, cm1, hkk1⟩ := hA.1 n1 (fun j => .int (g j))
  have z0 : (0 : Int32).toInt = 0 := rfl
  have neg : ∀ z : Int32, 0 ≤ z.toInt → ¬ z < 0 := fun z hz h => by have := Int32.lt_iff_toInt_lt.mp h; omega
  obtain ⟨vm', X', step⟩ := X.arraycopy hx hown (hts _ w1) (hts _ w2) (hts _ w3) (hts _ w4) (src := a0) (dst := a) (cs := arrV (DA 0) n0 (fun j => .int (f j))) (cd := arrV (DA 0) n1 (fun j => .int (g j))) (srcPos := sp) (destPos := dp) (n := n) (by rw [hT]; exact hc0) (by rw [hT]; exact hc1)
    (fun _ h => by cases h) (fun _ h => by cases h) (fun h => by cases h) (fun h => by cases h) hk0 hk1 hkk0 hkk1 rfl (neg _ (by omega)) (neg _ (by omega)) (neg _ h3)
    (by rw [arrV_size]; omega) (by rw [arrV_size]; omega)
    (fun vm₁ _ j hj => by
      have hj2 : j < n.toInt.toNat := hj
      have e : (arrV (DA 0) n0 (fun j => .int (f j))).slots.getD (sp.toNatClampNeg + j) .null = .int (f (sp.toNatClampNeg + j)) := by
        rw [Array.getD_eq_getD_getElem?, arrV_read _ _ (by rw [z_clamp]; omega)]
        rfl
      rw [e]
      exact ⟨rfl, trivial⟩)
    (g := F0 m pc ls (.int n :: .int dp :: .ref a :: .int sp :: .ref a0 :: rest)) rfl (by rw [hml]) (rest := rest) rfl (by rw [hb]; exact hd) hframes (by show 2 * 0 + _ + _ ≤ _; have := z_nfw; omega)
  have e1 : copied (arrV (DA 0) n0 (fun j => .int (f j))) (arrV (DA 0) n1 (fun j => .int (g j))) sp dp n = arrV (DA 0) n1 (fun j => .int (va_cpy f g 0 0 n.toInt.toNat j)) := by
    have := va_copied (n1 := n1) (sp := sp.toNatClampNeg) (dp := dp.toNatClampNeg) (n := n.toNatClampNeg) (fun z => Value.int z) (DA 0) (DA 0) f g (n0 := n0) (by rw [z_clamp, z_clamp]; omega)
    have es : sp.toNatClampNeg = 0 := by rw [z_clamp, h1]; rfl
    have ed : dp.toNatClampNeg = 0 := by rw [z_clamp, h2]; rfl
    rw [es, ed] at this
    show (arrV (DA 0) n1 (fun j => .int (g j))).storeRun dp.toNatClampNeg ((arrV (DA 0) n0 (fun j => .int (f j))).stretch sp.toNatClampNeg n.toNatClampNeg) = _
    rw [es, ed]
    exact this
  rw [e1] at X' step
  have hl : a < H.size := (Array.getElem?_eq_some_iff.mp hc1).1
  obtain ⟨t, q1, q2⟩ := kk (H.setIfInBounds a (arrV (DA 0) n1 (fun j => .int (va_cpy f g 0 0 n.toInt.toNat j)))) _ (fun q hq => by obtain ⟨z, -, hz⟩ := List.mem_map.mp hq; rw [← hz]) (by simp [Array.getElem?_setIfInBounds, hl]) (by simp) (fun b hb2 => by simp [Array.getElem?_setIfInBounds, Ne.symm hb2]) _ (by rw [← hT]; rfl) X'
  exact ⟨t, step t q1, q2⟩
theorem z_S_app {A : Nat → Prop} {H1 : Heap} {L : List Loc} {a : Nat} (h : va_S A H0 H locs) (hz : H1.size = H.size) (oq : ∀ b : Nat, b ≠ a → H1[b]? = H[b]?) (ha : A a) (hL : ∀ q ∈ L, q.base = a) : va_S A H0 H1 (locs ++ L) := by
  have h2 := h.put (k := 0) hz oq ha
  refine ⟨h2.1, h2.2.1, fun q hq => ?_⟩
  rcases List.mem_append.mp hq with hq | hq
  · exact h.2.2 q hq
  · rw [hL q hq]; exact ha
theorem z_acp_ok (hpu : pu = false) (h : z_acp TY RO R st = some st') (hs : z_sat OB D DA cl TY PHI sz raw pu T0 H0 env0 nL st T H locs env ls stk) :
    ∃ (a0 a n0 n1 : Nat) (f g : Nat → Int32) (sp dp n : Int32) (k : List Value), stk = .int n :: .int dp :: .ref a :: .int sp :: .ref a0 :: k ∧ H[a0]? = some (arrV (DA 0) n0 (fun j => .int (f j))) ∧ H[a]? = some (arrV (DA 0) n1 (fun j => .int (g j))) ∧ sp.toInt = 0 ∧ dp.toInt = 0 ∧ 0 ≤ n.toInt ∧ n.toInt.toNat ≤ n0 ∧ n.toInt.toNat ≤ n1 ∧
      1 ≤ R.frames ∧ (k.map fun v => v.category).sum + 60 ≤ R.locals ∧ z_C st' = z_C st ∧
      ∀ (H1 : Heap) (L : List Loc), (∀ q ∈ L, q.base = a) → H1[a]? = some (arrV (DA 0) n1 (fun j => .int (va_cpy f g 0 0 n.toInt.toNat j))) → H1.size = H.size → (∀ b : Nat, b ≠ a → H1[b]? = H[b]?) → z_sat OB D DA cl TY PHI sz raw pu T0 H0 env0 nL st' T H1 (locs ++ L) env ls k := by
  unfold z_acp at h
  split at h
  · rename_i n dp d sp a S hS
    split at h
    · rename_i k rn rd rs td ta hk0 hn hdp hsp hd ha
      split at h
      · rename_i qd qa hqd hqa
        obtain ⟨hc, rfl⟩ := z_cond h
        simp only [Bool.and_eq_true] at hc
        obtain ⟨⟨⟨⟨⟨⟨⟨⟨⟨⟨⟨⟨c1, c2⟩, c3⟩, c4⟩, c5⟩, c6⟩, c7⟩, c8⟩, c9⟩, c10⟩, c11⟩, c12⟩, c13⟩ := hc
        obtain ⟨ek, ⟨lo, hi⟩, sg⟩ := qd
        obtain ⟨ek0, ⟨lo0, hi0⟩, sg0⟩ := qa
        obtain ⟨vn, k1, rfl, e1, hk1⟩ := z_stk_cons hS hs.2.2.2.1
        obtain ⟨vdp, k2, rfl, e2, hk2⟩ := hk1
        obtain ⟨vd, k3, rfl, e3, hk3⟩ := hk2
        obtain ⟨vsp, k4, rfl, e4, hk4⟩ := hk3
        obtain ⟨va, k5, rfl, e5, hk5⟩ := hk4
        obtain ⟨_, i1, xn, rfl, hxn⟩ := z_get_ok hs.2.2.2.2.1 hn
        obtain ⟨_, i2, xdp, rfl, hxdp⟩ := z_get_ok hs.2.2.2.2.1 hdp
        obtain ⟨_, i3, xsp, rfl, hxsp⟩ := z_get_ok hs.2.2.2.2.1 hsp
        obtain ⟨A1, n1, f1, g1, g2, g3, g4, g5, g6, g7⟩ := z_arr hs hd hqd
        obtain ⟨A0, n0, f0, j1, j2, j3, j4, j5, j6, j7⟩ := z_arr hs ha hqa
        have q1 : vn = .int xn := Option.some.inj (e1.symm.trans i1)
        have q2 : vdp = .int xdp := Option.some.inj (e2.symm.trans i2)
        have q3 : vd = .ref A1 := Option.some.inj (e3.symm.trans g1)
        have q4 : vsp = .int xsp := Option.some.inj (e4.symm.trans i3)
        have q5 : va = .ref A0 := Option.some.inj (e5.symm.trans j1)
        subst q1; subst q2; subst q3; subst q4; subst q5
        obtain ⟨he, hall⟩ := z_alli_ok c8 g5 g7
        obtain ⟨he0, hall0⟩ := z_alli_ok c9 j5 j7
        have he : ek = 0 := he
        have he0 : ek0 = 0 := he0
        subst he; subst he0
        have t1 : H[A1]? = some (arrV (DA 0) n1 (fun j => .int (z_int (f1 j)))) := by rw [g3, z_arrC hall]
        have t0 : H[A0]? = some (arrV (DA 0) n0 (fun j => .int (z_int (f0 j)))) := by rw [j3, z_arrC hall0]
        have c1 := z_ile_ok c1
        have c2 := z_ile_ok c2
        have c3 := z_ile_ok c3
        have c4 := z_ile_ok c4
        have c5 := z_ile_ok c5
        have c6 : rn.2 ≤ (lo : Int) := z_ile_ok c6
        have c7 : rn.2 ≤ (lo0 : Int) := z_ile_ok c7
        obtain ⟨x1, x2⟩ := hxn
        obtain ⟨x3, x4⟩ := hxdp
        obtain ⟨x5, x6⟩ := hxsp
        have hcat := z_csum_ok hk0 hs hk5
        have hle := Nat.le_of_ble_eq_true c13
        refine ⟨A0, A1, n0, n1, _, _, xsp, xdp, xn, k5, rfl, t0, t1, by omega, by omega, by omega, by omega, by omega, Nat.le_of_ble_eq_true c12, by rw [hcat]; exact hle, rfl, fun H1 L hL h1 h2 h3 => ?_⟩
        have hcell : z_cell OB D DA cl T H1 A1 (.inr (0, (lo, hi), sg)) := by
          refine ⟨n1, _, h1, g4, g5, g6, fun g hg i hi1 hi2 hi3 => ?_⟩
          by_cases hin : i < xn.toInt.toNat
          · obtain ⟨fs, hfs, hfs2⟩ := List.any_eq_true.mp (List.all_eq_true.mp c11 g hg)
            simp only [Bool.and_eq_true] at hfs2
            have b1 := Nat.le_of_ble_eq_true hfs2.1.1
            have b2 := Nat.le_of_ble_eq_true hfs2.1.2
            have hv := j7 fs hfs i (by omega) (by omega) (by omega)
            rw [hall0 i (by omega)] at hv
            show z_v OB T g.2 (.int (va_cpy _ _ 0 0 _ i))
            rw [sb_cpy0 hin]
            exact z_le_ok hfs2.2 hv
          · have hv := g7 g hg i hi1 hi2 hi3
            rw [hall i hi1] at hv
            show z_v OB T g.2 (.int (va_cpy _ _ 0 0 _ i))
            rw [pk_cpy_out (Or.inr (by omega))]
            exact hv
        have hm := z_mem_set (k := 0) hpu hs.2.2.2.2.2.2.2.2.2 g2 hqd hcell h2 h3 (fun _ _ _ _ _ hh => by cases hh) (zJ_set hs.2.2.2.2.2.2.2.2.2.1.2 hs.2.2.2.2.2.2.2.2.2.1.1 g2 (by simpa using c10.2) h3 (fun ci fl hh => by rw [hqd] at hh; cases hh))
        have hx0 : ∀ (cC : ClassId) (N : Nat) (iS : Nat → Nat) (V : Nat → Value), t_OB A1 cC N iS H V → ∃ V', t_OB A1 cC N iS H1 V' := by
          intro cC N iS V hob
          obtain ⟨cell0, u1, u2, u3, u4⟩ := hob
          rw [t1] at u1
          cases u1
          refine ⟨fun k => .int (va_cpy (fun j => z_int (f0 j)) (fun j => z_int (f1 j)) 0 0 xn.toInt.toNat (iS k)), _, h1, u2, rfl, fun k hk => ?_⟩
          have hlt := (Array.getElem?_eq_some_iff.mp (u4 k hk)).1
          rw [arrV_size] at hlt
          exact arrV_read _ _ hlt
        refine ⟨hs.1, hs.2.1, hs.2.2.1, hk5, hs.2.2.2.2.1, fun f1 hf => ?_, fun f1 hf => ?_, hs.2.2.2.2.2.2.2.1, z_fx_upd h3 hx0 hs.2.2.2.2.2.2.2.2.1, hm.1, hm.2.1, hm.2.2.1, hm.2.2.2.1, z_S_app hs.2.2.2.2.2.2.2.2.2.2.2.2.2 h2 h3 (hs.2.2.2.2.2.2.2.2.2.2.1.1 A1 td g2) hL⟩
        · obtain ⟨hf1, hf2⟩ := List.mem_filter.mp hf
          obtain ⟨b, u, r2, y1, y2, y3, y4, y5⟩ := hs.2.2.2.2.2.1 f1 hf1
          exact ⟨b, u, r2, y1, y2, y3, y4, z_sl_kept y5 (h3 b (z_apt_ok hf2 hs y1 g1))⟩
        · obtain ⟨hf1, hf2⟩ := List.mem_filter.mp hf
          obtain ⟨b, x2, u, y1, y2, y3, y4, y5⟩ := hs.2.2.2.2.2.2.1 f1 hf1
          exact ⟨b, x2, u, y1, y2, y3, y4, z_sl_kept y5 (h3 b (z_apt_ok hf2 hs y1 g1))⟩
      · cases h
    · cases h
  · cases h
theorem z_r_acp (hpu : pu = false) (hg : z_Good p l e R s m args below meth c Q OB D DA cl TY PHI sz raw pu T0 H0 env0 nL good) (hx : p.tables.exec = Jvm.exec) (hb : c.code = cc) (hml : c.maxLocals = nL) (hD : z_Dy s m args Ts own D cl DA (z_tys DA)) {i : Nat} (w1 : Cond.methodLink own i arraycopyName ∈ Ts) (w2 : Cond.native arraycopyName ∈ Ts) (w3 : Cond.static arraycopyName ∈ Ts) (w4 : Cond.initialized "java/lang/System" ∈ Ts) (hd : decode cc pc = .ok (.invokestatic i, 3)) (h : z_acp TY RO R st = some st') (k : good (pc + 3) st') : good pc st := by
  refine (hg _ _).mpr fun T H locs env ls stk hs => ?_
  obtain ⟨a0, a, n0, n1, f, g, sp, dp, n, k2, rfl, h1, h2, h3, h4, h5, h6, h7, h8, h9, h10, h11⟩ := z_acp_ok hpu h hs
  have hlsz : ls.size = nL := by obtain ⟨lv, z1, _⟩ := hs.2.2.1; exact z1.1
  refine z_cprow hx hb (by rw [hml, hlsz]) hD w1 w2 w3 w4 h1 h2 h3 h4 h5 h6 h7 h8 h9 hd fun H1 L e1 e2 e3 e4 => ?_
  have kk := (hg _ _).mp k T H1 _ env ls _ (h11 H1 L e1 e2 e3 e4)
  rwa [h10] at kk
end ZCOPY
end
section
/-! Behind a call. -/
section ZCALLS2
variable {p : Program} {l : Launch} {e : Env} {R : Room} {s : State} {m : MethodId} {args : Array Value} {below : List Frame} {meth : Method} {c : Code} {Q : State → Prop} {cc : ByteArray} {pc : Nat}
variable {OB : Nat → Nat} {D : va_G} {DA : Nat → ClassId} {cl : List vw_C} {FT : Nat → Nat → FieldType} {TY : List zTy} {PHI : List (List Nat)} {sz : Nat} {raw : Option Nat} {pu : Bool} {T0 : zTp} {H0 : Heap} {env0 : List Value} {nL : Nat} {st st' : zS} {T : zTp} {H : Heap} {locs : List Loc} {env : List Value} {ls : Array Slot} {stk : List Value} {g : zSig} {KX : State → Heap → Prop} {rest : List Value} {cells slots mc ms : Nat} {good : Nat → zS → Prop}
theorem z_mpT {T' : zTp} (h : ∀ a t, T a = some t → T' a = some (z_phi PHI (g_ph g) t)) {k : zV} {v : Value} (hv : z_v OB T k v) : z_v OB T' (z_mp PHI (g_ph g) k) v := by
  match k, hv with
  | .inl r, hv => exact hv
  | .inr (.inl t), ⟨a, e, ha⟩ => exact ⟨a, e, h a t ha⟩
  | .inr (.inr 0), hv => exact hv
  | .inr (.inr (k + 1)), hv => exact hv
theorem z_fx_call {n0 : Nat} {H1 : Heap} {T' : zTp} {f : Nat × Nat → Bool} : ∀ {X : List (Nat × Nat)}, (∀ p ∈ X, f p = true → ∀ a : Nat, env[p.1]? = some (.ref a) → T a = none → a < H.size → T' a = none ∧ H1[a]? = H[a]?) → z_fx D cl T sz n0 raw H env X → z_fx D cl T' sz n0 raw H1 env (X.filter f)
  | [], _, h => h
  | x :: X, hk, ⟨⟨b, h1, h2, h3, ⟨r, V, h4, h4b⟩, h5⟩, hr⟩ => by
    have ih := z_fx_call (fun p hp => hk p (List.mem_cons_of_mem _ hp)) hr
    unfold List.filter
    cases hx : f x with
    | false => exact ih
    | true =>
      have hlt : b < H.size := by
        obtain ⟨cell, x1, -⟩ := h4b
        exact (Array.getElem?_eq_some_iff.mp x1).1
      obtain ⟨k1, k2⟩ := hk x List.mem_cons_self hx b h1 h2 hlt
      exact ⟨⟨b, h1, k1, h3, ⟨r, V, h4, h4b.kept k2⟩, fun p hp => h5 p (List.mem_filter.mp hp).1⟩, ih⟩
/-- what all ends share -/
theorem z_bas_ok {As : List Nat} {va vr : List Value} {v : Option Value} {s1 t : State} {H1 : Heap} {locs1 : List Loc} (hs : z_sat OB D DA cl TY PHI sz raw pu T0 H0 env0 nL st T H locs env ls vr) (hA : As.length = va.length) (hA2 : ∀ (j a : Nat), As[j]? = some a → ∃ x, va[j]? = some x ∧ env[a]? = some x)
    (hraw : ∀ ci, g_raw g = some ci → ∃ a, As[0]? = some a ∧ z_isx st a = true) (hph : g_ph g = 0 ∨ (z_ph st = 0 ∨ (Nat.blt (z_ph st) 1000 = true ∧ Nat.blt (g_ph g) 1000 = true))) (hpu : g_pur g = true ∨ pu = false) (h0 : s1.heap = H) (ht : t.heap = H1) (hS : va_S (fun q => sz ≤ q) H0 H1 locs1) (hP : z_Post OB D DA cl TY PHI sz g T va.toArray s1 (.returned v) t) :
    ∃ T' P, z_sat OB D DA cl TY PHI sz raw pu T0 H0 env0 nL (z_bas TY cl PHI g As st) T' H1 locs1 env ls vr ∧ P ∈ g_pst g ∧ z_Cs OB D cl g T' va H H1 v P ∧ (∀ a t, T a = some t → T' a = some (z_phi PHI (g_ph g) t)) ∧ (g_pur g = true → H1 = H ∧ T' = T) := by
  obtain ⟨va2, v2, T', q1, q2, q3, q4, q5, q6, q7, q8, ⟨q9, qf⟩, P, q10, q11⟩ := hP
  have hva : va = va2 := by have := congrArg Array.toList q1; simpa using this
  subst hva
  have hvv : v = v2 := Outcome.returned.inj q2
  subst hvv
  rw [h0] at q6 q7 q8 q9 qf q11
  rw [ht] at q3 q6 q7 q8 q9 qf q11
  refine ⟨T', P, ?_, q10, q11, q5, q9⟩
  obtain ⟨m1, ⟨m2, m3, mf⟩, m4, m5, m6⟩ := hs.2.2.2.2.2.2.2.2.2
  -- a raw cell that is not the one handed on
  have keep : ∀ a : Nat, a < H.size → T a = none → (∀ d, g_raw g ≠ none → As[0]? = some d → env[d]? ≠ some (.ref a)) → T' a = none ∧ H1[a]? = H[a]? := by
    intro a ha1 ha2 ha3
    refine q6 a ha1 ha2 (fun hi hv0 => ?_)
    cases hr : g_raw g with
    | none => rw [hr] at hi; cases hi
    | some ci =>
      obtain ⟨d, hd, _⟩ := hraw ci hr
      obtain ⟨x, hx1, hx2⟩ := hA2 0 d hd
      rw [hv0] at hx1
      cases hx1
      exact ha3 d (by rw [hr]; simp) hd hx2
  have hV : z_fv OB T' env (cond (Nat.beq (g_ph g) 0) (z_V st) ((z_V st).map (fun q => (q.1, z_mp PHI (g_ph g) q.2)))) := by
    cases hb : Nat.beq (g_ph g) 0 with
    | true =>
      intro f hf
      obtain ⟨w, e1, e2⟩ := hs.2.2.2.2.1 f hf
      have := z_mpT (g := g) q5 e2
      rw [z_beq hb, z_mp0] at this
      exact ⟨w, e1, this⟩
    | false =>
      intro f hf
      obtain ⟨q, hq, rfl⟩ := List.mem_map.mp hf
      obtain ⟨w, e1, e2⟩ := hs.2.2.2.2.1 q hq
      exact ⟨w, e1, z_mpT q5 e2⟩
  refine ⟨hs.1, hs.2.1, hs.2.2.1, hs.2.2.2.1, hV, ?_, ?_, hs.2.2.2.2.2.2.2.1, ?_, q3, ⟨q4, fun h => ?_, z_fin_tr mf qf⟩, fun a u hu => ?_, fun q hq1 hq2 hq3 => ?_, hS⟩
  · show z_ff D cl H1 env (cond (g_pur g) _ _)
    cases hp : g_pur g with
    | true => rw [(q9 hp).1]; exact hs.2.2.2.2.2.1
    | false =>
      intro f hf
      obtain ⟨hf1, hf2⟩ := List.mem_filter.mp hf
      obtain ⟨a, w, r, e1, e2, e3, e4, e5⟩ := hs.2.2.2.2.2.1 f hf1
      rw [Bool.or_eq_true] at hf2
      rcases hf2 with hf2 | hf2
      · unfold z_fnl at hf2
        split at hf2
        · rename_i t2 ht2
          split at hf2
          · rename_i o r2 ho2 hr2
            rw [Bool.and_eq_true] at hf2
            obtain ⟨v3, u1, a3, rfl, u2⟩ := z_get_ok hs.2.2.2.2.1 ht2
            rw [e1] at u1
            cases u1
            obtain ⟨oc, of⟩ := o
            have hoc : oc = f.2.1 := z_beq hf2.1
            subst hoc
            rw [e3] at hr2
            cases hr2
            obtain ⟨t', fl', k1, k2, k3⟩ := qf a t2 _ of u2 ho2
            exact ⟨a, w, r, e1, e2, e3, e4, k3 r _ w e3 e4 hf2.2 e5⟩
          · cases hf2
        · cases hf2
      rw [Bool.and_eq_true] at hf2
      obtain ⟨b, g1, g2, g3, y, hy, hyd, r2, V2, g4, g5⟩ := z_isx_ok hf2.1 hs
      rw [e1] at g1
      cases g1
      have hlt : a < H.size := by
        obtain ⟨cell, x1, -⟩ := e5
        exact (Array.getElem?_eq_some_iff.mp x1).1
      refine ⟨a, w, r, e1, e2, e3, e4, z_sl_kept e5 (keep a hlt g2 (fun d hd1 hd2 hd3 => ?_)).2⟩
      cases hr : g_raw g with
      | none => exact hd1 hr
      | some ci =>
        have h5 := hf2.2
        rw [hr, hd2] at h5
        have hne : f.1 ≠ d := fun h => by rw [h] at h5; simp at h5
        obtain ⟨d2, hd4, hd5⟩ := hraw ci hr
        rw [hd2] at hd4
        cases hd4
        obtain ⟨_, _, _, _, z, hz, hzd, _⟩ := z_isx_ok hd5 hs
        exact z_fx_apart hs.2.2.2.2.2.2.2.2.1 hy hz (by rw [hyd, hzd]; exact hne) (by rw [hyd]; exact e1) (by rw [hzd]; exact hd3)
  · show z_fe H1 env (cond (g_pur g) _ _)
    cases hp : g_pur g with
    | true => rw [(q9 hp).1]; exact hs.2.2.2.2.2.2.1
    | false => exact fun f hf => absurd hf List.not_mem_nil
  · have hX := hs.2.2.2.2.2.2.2.2.1
    have lt : ∀ q ∈ z_X st, ∀ a : Nat, env[q.1]? = some (.ref a) → T a = none → a < H.size → (∀ d, g_raw g ≠ none → As[0]? = some d → env[d]? ≠ some (.ref a)) → T' a = none ∧ H1[a]? = H[a]? := fun q _ a _ ha2 ha3 ha4 => keep a ha3 ha2 ha4
    show z_fx D cl T' sz H0.size raw H1 env (match g_raw g, As[0]? with
      | some _, some a => (z_X st).filter (fun p => !(Nat.beq p.1 a))
      | _, _ => z_X st)
    cases hr : g_raw g with
    | none =>
      have := z_fx_call (H1 := H1) (T' := T') (f := fun _ => true) (fun q hq _ a ha1 ha2 ha3 => lt q hq a ha1 ha2 ha3 (fun d hd => absurd hr hd)) hX
      rw [List.filter_eq_self.mpr (fun _ _ => rfl)] at this
      exact this
    | some ci =>
      obtain ⟨d, hd, hdx⟩ := hraw ci hr
      rw [hd]
      refine z_fx_call (f := fun p => !(Nat.beq p.1 d)) (fun q hq hf a ha1 ha2 ha3 => lt q hq a ha1 ha2 ha3 (fun d2 _ hd2 hd3 => ?_)) hX
      rw [hd] at hd2
      cases hd2
      have hne : q.1 ≠ d := fun h => by rw [h] at hf; simp at hf
      obtain ⟨_, _, _, _, z, hz, hzd, _⟩ := z_isx_ok hdx hs
      exact z_fx_apart hX hq hz (by rw [hzd]; exact hne) ha1 (by rw [hzd]; exact hd3)
  · rcases hpu with hp | hp
    · obtain ⟨y1, y2⟩ := q9 hp
      obtain ⟨z1, z2⟩ := m3 h
      exact ⟨y1.trans z1, y2.trans z2⟩
    · rw [hp] at h; cases h
  · have h1 := q5 a _ (m4 a u hu)
    show T' a = some (z_phi PHI (cond (Nat.beq (g_ph g) 0) (z_ph st) (cond (Nat.beq (z_ph st) 0) (g_ph g) (g_ph g * 1000 + z_ph st))) u)
    cases hb : Nat.beq (g_ph g) 0 with
    | true => rw [z_beq hb] at h1; exact h1
    | false =>
      cases hb2 : Nat.beq (z_ph st) 0 with
      | true => rw [z_beq hb2] at h1; exact h1
      | false =>
        rcases hph with h | h | h
        · rw [h] at hb; cases hb
        · rw [h] at hb2; cases hb2
        · show T' a = some (z_phi PHI (g_ph g * 1000 + z_ph st) u)
          rw [z_phi_cmp h.1 h.2 (fun h0 => by rw [h0] at hb; cases hb)]
          exact h1
  · obtain ⟨y1, y2⟩ := m5 q hq1 hq2 hq3
    obtain ⟨z1, z2⟩ := keep q (Nat.lt_of_lt_of_le hq1 m6.1) y1 (fun d hd1 hd2 hd3 => by
      cases hr : g_raw g with
      | none => exact hd1 hr
      | some ci =>
        obtain ⟨d2, hd4, hd5⟩ := hraw ci hr
        rw [hd2] at hd4
        cases hd4
        obtain ⟨b, g1, g2, g3, _⟩ := z_isx_ok hd5 hs
        rw [hd3] at g1
        cases g1
        rcases g3.2 with h | h
        · omega
        · exact hq3 h)
    exact ⟨z1, z2.trans y2⟩
theorem z_rfA_ok {As : List Nat} {va : List Value} (hA2 : ∀ (j a : Nat), As[j]? = some a → ∃ x, va[j]? = some x ∧ env[a]? = some x) : ∀ {A : List (Nat × zV)} {st : zS} {L : List zS}, z_rfA As A st = some L → (∀ q ∈ A, ∃ x, va[q.1]? = some x ∧ z_v OB T q.2 x) → z_sat OB D DA cl TY PHI sz raw pu T0 H0 env0 nL st T H locs env ls stk →
    ∃ st', L = [st'] ∧ z_sat OB D DA cl TY PHI sz raw pu T0 H0 env0 nL st' T H locs env ls stk ∧ z_C st' = z_C st ∧ z_S st' = z_S st
  | [], st, L, h, _, hs => by
    cases h
    exact ⟨st, rfl, hs, rfl, rfl⟩
  | q :: r, st, L, h, hq, hs => by
    obtain ⟨x, e1, e2⟩ := hq q List.mem_cons_self
    have hr := fun p hp => hq p (List.mem_cons_of_mem _ hp)
    unfold z_rfA at h
    split at h
    · rename_i a ha
      obtain ⟨x2, e3, e4⟩ := hA2 _ _ ha
      rw [e1] at e3
      cases e3
      split at h
      · rename_i r1 r2 hv hc
        rw [hc] at e2
        obtain ⟨y, rfl, hy⟩ := e2
        obtain ⟨w, e5, y2, rfl, hy2⟩ := z_get_ok hs.2.2.2.2.1 hv
        rw [e4] at e5
        cases e5
        have hin : z_in (z_max r1.1 r2.1, z_min r1.2 r2.2) y := ⟨z_max_le hy2.1 hy.1, z_min_ge hy2.2 hy.2⟩
        have hb : z_ile (z_max r1.1 r2.1) (z_min r1.2 r2.2) = true := decide_eq_true (Int.le_trans hin.1 hin.2)
        rw [hb] at h
        obtain ⟨st', g1, g2, g3, g4⟩ := z_rfA_ok hA2 h hr (z_sat_mor hs hs.2.2.2.1 (fun f hf => by rw [List.mem_singleton.mp hf]; exact ⟨_, e4, z_vi hin⟩) (fun f hf => absurd hf List.not_mem_nil))
        exact ⟨st', g1, g2, g3, g4⟩
      · obtain ⟨st', g1, g2, g3, g4⟩ := z_rfA_ok hA2 h hr (z_sat_mor hs hs.2.2.2.1 (fun f hf => by rw [List.mem_singleton.mp hf]; exact ⟨_, e4, e2⟩) (fun f hf => absurd hf List.not_mem_nil))
        exact ⟨st', g1, g2, g3, g4⟩
    · cases h
end ZCALLS2
end
section
/-! A call, whole. -/
/-- words that go on holding -/
def z_gw : Cond → Bool
  | .methodLinkNest .. => true
  | w => goodWord w
theorem z_pay {big ws : List Cond} {args : Array Value} {s : State} (hts : ∀ w ∈ big, w.before args s = true) (h : ∀ w ∈ ws, w ∈ big ∧ z_gw w = true) : ∀ w ∈ ws, ∀ (a' : Array Value) (U : State), s.WarmedH U.vm → w.before a' U = true := by
  intro w hw a' U hW
  obtain ⟨h1, h2⟩ := h w hw
  unfold z_gw at h2
  split at h2
  · exact va_Nw.use rfl (va_Nw.warmM hW (va_Nw.of (A := args) rfl (hts _ h1)))
  · exact word_at hW (good_of_word h2) (hts _ h1)
def z_KXp (sz : Nat) (KX : State → Heap → Prop) : Prop := (∀ (s U : State) (H : Heap), KX s H → s.WarmedH U.vm → KX U H) ∧ (∀ (s : State) (H H1 : Heap), KX s H → H.size ≤ H1.size → (∀ q : Nat, q < H.size → ¬ sz ≤ q → H1[q]? = H[q]?) → KX s H1) ∧ (∀ (u U : State) (H : Heap), U.vm = u.vm → KX u H → KX U H)
def z_OK (TBL : List Cond) (cl : List vw_C) (FT : Nat → Nat → FieldType) (TY : List zTy) (PHI : List (List Nat)) (KXf : (Nat → Nat) → Nat → State → Heap → Prop) (y : MethodName) (bytes : ByteArray) (maxL : Nat) (ret : Option FieldType) (g : zSig) : Prop :=
  ∀ (l : Launch) (OB : Nat → Nat) (D : va_G) (DA : Nat → ClassId) (sz : Nat) (T : zTp), Met l y (Cond.code y bytes maxL ret :: TBL) { frames := (g_rm g).1, cells := (g_mk g).1, slots := (g_mk g).2, locals := (g_rm g).2 } (z_Pre OB D DA cl FT TY sz (KXf OB sz) g T) (z_Post OB D DA cl TY PHI sz g T) (g_mk g).1 (g_mk g).2 (fun q => sz ≤ q)
def z_lk (Ts : List Cond) (own : String) (kind i : Nat) (y : MethodName) (bytes : ByteArray) (maxL : Nat) (ret : Option FieldType) (np : Nat) : Prop :=
  Cond.code y bytes maxL ret ∈ Ts ∧ Cond.initialized y.cls ∈ Ts ∧ (y.cls ≠ "java/lang/invoke/MethodHandle" ∧ y.cls ≠ "java/lang/invoke/VarHandle") ∧ (parseMethodDescriptor y.desc).map (fun d => d.parameters.length) = some np ∧
  (match kind with
    | 0 => Cond.methodLink own i y ∈ Ts ∧ Cond.instanceMethod y ∈ Ts ∧ Cond.selects y.cls y y ∈ Ts
    | 1 => Cond.methodLink own i y ∈ Ts ∧ Cond.static y ∈ Ts
    | 2 => Cond.methodLink own i y ∈ Ts ∧ Cond.instanceMethod y ∈ Ts ∧ y.name = "<init>" ∧ ret = none
    | 4 => (∃ host, Cond.methodLinkNest own i y host ∈ Ts) ∧ Cond.static y ∈ Ts
    | _ => (∃ host, Cond.methodLinkNest own i y host ∈ Ts) ∧ Cond.instanceMethod y ∈ Ts ∧ y.name = "<init>" ∧ ret = none)
section ZCALLS3
variable {p : Program} {l : Launch} {e : Env} {R : Room} {s : State} {m : MethodId} {args : Array Value} {below : List Frame} {meth : Method} {c : Code} {Q : State → Prop} {cc : ByteArray} {pc : Nat}
variable {OB : Nat → Nat} {D : va_G} {DA : Nat → ClassId} {cl : List vw_C} {FT : Nat → Nat → FieldType} {TY : List zTy} {PHI : List (List Nat)} {sz : Nat} {raw : Option Nat} {pu : Bool} {T0 : zTp} {H0 : Heap} {env0 : List Value} {nL : Nat} {st st' : zS} {T : zTp} {H : Heap} {locs : List Loc} {env : List Value} {ls : Array Slot} {stk : List Value} {g : zSig} {KXf : (Nat → Nat) → Nat → State → Heap → Prop} {rest : List Value} {cells slots : Nat} {good : Nat → zS → Prop}
variable {Ts TBL : List Cond} {own : String} {y : MethodName} {bytes : ByteArray} {maxL np i : Nat} {ret : Option FieldType}
theorem z_nx3 (A : List Value) (x y z : Value) : (A ++ [x, y, z])[A.length]? = some x ∧ (A ++ [x, y, z])[A.length + 1]? = some y ∧ (A ++ [x, y, z])[A.length + 2]? = some z := ⟨by simp, by simp, by simp⟩
theorem z_rel2_ok {w gi : Nat} {h : zV × Option Int × Option Int} {w0 v : Value} (h1 : env[w]? = some v) (h2 : env[gi]? = some w0) (hlo : ∀ k, h.2.1 = some k → ∃ x y : Int32, w0 = .int x ∧ v = .int y ∧ x.toInt + k ≤ y.toInt) (hhi : ∀ k, h.2.2 = some k → ∃ x y : Int32, w0 = .int x ∧ v = .int y ∧ y.toInt ≤ x.toInt + k) : z_fr env (z_rel2 w gi h) := by
  intro q hq
  rcases List.mem_append.mp hq with hq | hq
  · cases hk : h.2.1 with
    | none => rw [hk] at hq; exact absurd hq List.not_mem_nil
    | some k =>
      rw [hk] at hq
      rw [List.mem_singleton.mp hq]
      obtain ⟨x, y, rfl, rfl, hxy⟩ := hlo k hk
      exact ⟨x, y, h1, h2, hxy⟩
  · cases hk : h.2.2 with
    | none => rw [hk] at hq; exact absurd hq List.not_mem_nil
    | some k =>
      rw [hk] at hq
      rw [List.mem_singleton.mp hq]
      obtain ⟨x, y, rfl, rfl, hxy⟩ := hhi k hk
      exact ⟨y, x, h2, h1, by show y.toInt + -k ≤ _; omega⟩
theorem z_emp_ok {k : zV} {v : Value} (hv : z_v OB T k v) : z_emp k = false := by
  match k, hv with
  | .inl r, ⟨x, _, h1, h2⟩ =>
    have : z_ile r.1 r.2 = true := decide_eq_true (Int.le_trans h1 h2)
    show (!(z_ile r.1 r.2)) = false
    rw [this]; rfl
  | .inr _, _ => rfl
theorem z_rfV_ok {gi : Nat} {h : zV × Option Int × Option Int} {w0 w : Value} (hs : z_sat OB D DA cl TY PHI sz raw pu T0 H0 env0 nL st T H locs env ls stk) (h1 : env[gi]? = some w0) (hv : z_v OB T h.1 w) (hlo : ∀ k, h.2.1 = some k → ∃ x y : Int32, w0 = .int x ∧ w = .int y ∧ x.toInt + k ≤ y.toInt) (hhi : ∀ k, h.2.2 = some k → ∃ x y : Int32, w0 = .int x ∧ w = .int y ∧ y.toInt ≤ x.toInt + k) : z_v OB T (z_rfV st gi h) w := by
  unfold z_rfV
  split
  · rename_i r a hr ha
    rw [hr] at hv
    obtain ⟨y, rfl, y1, y2⟩ := hv
    obtain ⟨v, e1, x, rfl, x1, x2⟩ := z_get_ok hs.2.2.2.2.1 ha
    rw [h1] at e1
    cases e1
    refine ⟨y, rfl, ?_, ?_⟩
    · show (match h.2.1 with
        | some k => z_max r.1 (a.1 + k)
        | none => r.1) ≤ _
      cases hk : h.2.1 with
      | none => exact y1
      | some k =>
        obtain ⟨x', y', g1, g2, g3⟩ := hlo k hk
        cases g1; cases g2
        exact z_max_le y1 (by omega)
    · show _ ≤ (match h.2.2 with
        | some k => z_min r.2 (a.2 + k)
        | none => r.2)
      cases hk : h.2.2 with
      | none => exact y2
      | some k =>
        obtain ⟨x', y', g1, g2, g3⟩ := hhi k hk
        cases g1; cases g2
        exact z_min_ge y2 (by omega)
  · exact hv
theorem z_nx2 (A : List Value) (x y : Value) : (A ++ [x, y])[A.length + 1]? = some y := by simp
theorem z_cnd {α : Type} {b : Bool} {o : Option α} {r : α} (h : cond b o none = some r) : b = true ∧ o = some r := by
  cases b with
  | true => exact ⟨rfl, h⟩
  | false => cases h
theorem z_rfL_ok {As : List Nat} {va : List Value} (hA2 : ∀ (j a : Nat), As[j]? = some a → ∃ x, va[j]? = some x ∧ env[a]? = some x) : ∀ {L : List ((zLoc × zV) × Nat × (zV × Option Int × Option Int))} {st : zS} {L1 : List zS} {x : List Value}, z_rfL TY As L st = some L1 →
    (∀ q ∈ L, ∃ w0 w, env[q.2.1]? = some w0 ∧ z_lv D cl H (va[q.1.1.1]?) q.1.1 w ∧ z_v OB T q.2.2.1 w ∧ (∀ k, q.2.2.2.1 = some k → ∃ x y : Int32, w0 = .int x ∧ w = .int y ∧ x.toInt + k ≤ y.toInt) ∧ (∀ k, q.2.2.2.2 = some k → ∃ x y : Int32, w0 = .int x ∧ w = .int y ∧ y.toInt ≤ x.toInt + k)) →
    z_sat OB D DA cl TY PHI sz raw pu T0 H0 env0 nL st T H locs (env ++ x) ls stk → ∃ st' x', L1 = [st'] ∧ z_sat OB D DA cl TY PHI sz raw pu T0 H0 env0 nL st' T H locs (env ++ x') ls stk ∧ z_C st' = z_C st ∧ z_S st' = z_S st ∧ ∃ w, x' = x ++ w
  | [], st, L1, x, h, _, hs => by
    cases h
    exact ⟨st, x, rfl, hs, rfl, rfl, [], by rw [List.append_nil]⟩
  | q :: r, st, L1, x, h, hq, hs => by
    obtain ⟨w0, w, e1, e2, e3, e4, e5⟩ := hq q List.mem_cons_self
    have hr := fun p hp => hq p (List.mem_cons_of_mem _ hp)
    have e3 := z_rfV_ok hs (z_app e1) e3 e4 e5
    unfold z_rfL at h
    rw [z_emp_ok e3] at h
    have h : (match As[q.1.1.1]? with
      | some a => (match q.1.1.2.2.2 with
        | none => z_rfL TY As r (z_L st, z_S st, z_n st + 1, (z_n st, z_rfV st q.2.1 q.2.2) :: z_V st, (a, q.1.1.2.1, q.1.1.2.2.1, z_n st) :: z_F st, z_E st, z_rel2 (z_n st) q.2.1 q.2.2 ++ z_R st, z_X st, z_C st, z_ph st)
        | some c => (match z_ffind st a q.1.1.2.1 q.1.1.2.2.1 with
          | some w => cond (Nat.ble c 1000000) (z_rfL TY As r (z_L st, z_S st, z_n st + 2, (z_n st + 1, z_rfV st q.2.1 q.2.2) :: (z_n st, .inl ((c : Int), (c : Int))) :: z_V st, z_F st, (w, z_n st, z_n st + 1) :: z_E st, z_rel2 (z_n st + 1) q.2.1 q.2.2 ++ z_R st, z_X st, z_C st, z_ph st)) none
          | none => (match z_get (z_V st) a with
          | some (.inr (.inl t)) => (match TY[t]? with
            | some (.inl o) => (match o.2[q.1.1.2.2.1]? with
              | some cf => cond (Nat.beq o.1 q.1.1.2.1 && Nat.ble c 1000000) (z_rfL TY As r (z_L st, z_S st, z_n st + 3, (z_n st + 2, z_rfV st q.2.1 q.2.2) :: (z_n st + 1, .inl ((c : Int), (c : Int))) :: (z_n st, cf) :: z_V st, (a, q.1.1.2.1, q.1.1.2.2.1, z_n st) :: z_F st, (z_n st, z_n st + 1, z_n st + 2) :: z_E st, z_rel2 (z_n st + 2) q.2.1 q.2.2 ++ z_R st, z_X st, z_C st, z_ph st)) none
              | none => none)
            | _ => none)
          | _ => none)))
      | none => none) = some L1 := h
    split at h
    · rename_i a ha
      obtain ⟨xa, f1, f2⟩ := hA2 _ _ ha
      obtain ⟨ad, rc, g1, g2, g3, g4⟩ := e2
      rw [f1] at g1
      cases g1
      split at h
      · rename_i ho
        rw [ho] at g4
        have hn : (env ++ (x ++ [w]))[z_n st]? = some w := by rw [← hs.1, ← List.append_assoc]; simp
        have hp : z_sat OB D DA cl TY PHI sz raw pu T0 H0 env0 nL (z_L st, z_S st, z_n st + 1, (z_n st, z_rfV st q.2.1 q.2.2) :: z_V st, (a, q.1.1.2.1, q.1.1.2.2.1, z_n st) :: z_F st, z_E st, z_rel2 (z_n st) q.2.1 q.2.2 ++ z_R st, z_X st, z_C st, z_ph st) T H locs (env ++ (x ++ [w])) ls stk := by
          rw [← List.append_assoc] at hn ⊢
          refine ⟨by show (env ++ x ++ [w]).length = z_n st + 1; rw [List.length_append, hs.1]; rfl, z_pre_app (w1 := []) hs.2.1, z_ls_app hs.2.2.1, z_stk_app hs.2.2.2.1, fun f hf => ?_, fun f hf => ?_, z_fe_app hs.2.2.2.2.2.2.1, fun f hf => ?_, z_fx_app hs.2.2.2.2.2.2.2.2.1, hs.2.2.2.2.2.2.2.2.2⟩
          · rcases List.mem_cons.mp hf with rfl | hf
            · exact ⟨_, hn, e3⟩
            · exact z_fv_app hs.2.2.2.2.1 f hf
          · rcases List.mem_cons.mp hf with rfl | hf
            · exact ⟨ad, w, rc, z_app (z_app f2), hn, g2, g3, g4⟩
            · exact z_ff_app hs.2.2.2.2.2.1 f hf
          · rcases List.mem_append.mp hf with hf | hf
            · exact z_rel2_ok hn (z_app (z_app e1)) e4 e5 f hf
            · exact z_fr_app hs.2.2.2.2.2.2.2.1 f hf
        obtain ⟨st', x', k0, k1, k2, k3, w2, k4⟩ := z_rfL_ok hA2 h hr hp
        exact ⟨st', x', k0, k1, k2, k3, [w] ++ w2, by rw [k4, List.append_assoc]⟩
      · rename_i c0 ho
        rw [ho] at g4
        obtain ⟨b, b1, b2⟩ := g4
        cases hff : z_ffind st a q.1.1.2.1 q.1.1.2.2.1 with
        | some wf =>
          rw [hff] at h
          obtain ⟨hb, h⟩ := z_cnd h
          obtain ⟨a2, v2, y1, y2, y3⟩ := z_ffind_ok hff hs
          rw [z_app f2] at y1
          cases y1
          have := z_sl_fun y3 b1
          subst this
          have hcle := Nat.le_of_ble_eq_true hb
          have hi : (Int32.ofNat c0).toInt = (c0 : Int) := Int32.toInt_ofNat_of_lt (by omega)
          have l0 : (env ++ x).length = z_n st := hs.1
          have n0 : (env ++ x ++ [.int (Int32.ofNat c0), w])[z_n st]? = some (.int (Int32.ofNat c0)) := by rw [← l0]; simp
          have n1 : (env ++ x ++ [.int (Int32.ofNat c0), w])[z_n st + 1]? = some w := by rw [← l0]; exact z_nx2 _ _ _
          have hp : z_sat OB D DA cl TY PHI sz raw pu T0 H0 env0 nL (z_L st, z_S st, z_n st + 2, (z_n st + 1, z_rfV st q.2.1 q.2.2) :: (z_n st, .inl ((c0 : Int), (c0 : Int))) :: z_V st, z_F st, (wf, z_n st, z_n st + 1) :: z_E st, z_rel2 (z_n st + 1) q.2.1 q.2.2 ++ z_R st, z_X st, z_C st, z_ph st) T H locs (env ++ (x ++ [.int (Int32.ofNat c0), w])) ls stk := by
            rw [← List.append_assoc]
            refine ⟨by show (env ++ x ++ [.int (Int32.ofNat c0), w]).length = z_n st + 2; rw [List.length_append, hs.1]; rfl, ?_, z_ls_app hs.2.2.1, z_stk_app hs.2.2.2.1, fun f hf => ?_, z_ff_app hs.2.2.2.2.2.1, fun f hf => ?_, fun f hf => ?_, z_fx_app hs.2.2.2.2.2.2.2.2.1, hs.2.2.2.2.2.2.2.2.2⟩
            · obtain ⟨w3, hw3⟩ := hs.2.1
              exact ⟨w3 ++ [.int (Int32.ofNat c0), w], by rw [hw3, List.append_assoc]⟩
            · rcases List.mem_cons.mp hf with rfl | hf
              · exact ⟨_, n1, e3⟩
              · rcases List.mem_cons.mp hf with rfl | hf
                · exact ⟨_, n0, z_vi ⟨by rw [hi]; exact Int.le_refl _, by rw [hi]; exact Int.le_refl _⟩⟩
                · exact z_fv_app hs.2.2.2.2.1 f hf
            · rcases List.mem_cons.mp hf with rfl | hf
              · exact ⟨b, _, w, z_app y2, n0, by omega, n1, by rw [hi]; simpa using b2⟩
              · exact z_fe_app hs.2.2.2.2.2.2.1 f hf
            · rcases List.mem_append.mp hf with hf | hf
              · exact z_rel2_ok n1 (z_app (z_app e1)) e4 e5 f hf
              · exact z_fr_app hs.2.2.2.2.2.2.2.1 f hf
          obtain ⟨st', x', k0, k1, k2, k3, w2, k4⟩ := z_rfL_ok hA2 h hr hp
          exact ⟨st', x', k0, k1, k2, k3, [.int (Int32.ofNat c0), w] ++ w2, by rw [k4, List.append_assoc]⟩
        | none =>
        rw [hff] at h
        simp only at h
        split at h
        · rename_i t ht
          split at h
          · rename_i o hto
            split at h
            · rename_i cf hcf
              cases hb : (Nat.beq o.1 q.1.1.2.1 && Nat.ble c0 1000000) with
              | false => rw [hb] at h; cases h
              | true =>
                rw [hb] at h
                rw [Bool.and_eq_true] at hb
                obtain ⟨ci, fl⟩ := o
                have hci : ci = q.1.1.2.1 := z_beq hb.1
                obtain ⟨a2, r2, V, y1, y2, y3, y4, y5, y6⟩ := z_obj hs ht hto
                rw [z_app f2] at y1
                cases y1
                have hcle := Nat.le_of_ble_eq_true hb.2
                have hi : (Int32.ofNat c0).toInt = (c0 : Int) := Int32.toInt_ofNat_of_lt (by omega)
                have hVk : V q.1.1.2.2.1 = .ref b := by
                  obtain ⟨cell, z1, z2, z3, z4⟩ := y5
                  have hlt : q.1.1.2.2.1 < r2.2.2 := by rw [← y4]; exact (List.getElem?_eq_some_iff.mp hcf).1
                  have z5 : z_sl H ad (D.2 q.1.1.2.1 q.1.1.2.2.1) (V q.1.1.2.2.1) := ⟨cell, z1, z3, by rw [← hci]; exact z4 _ hlt⟩
                  exact z_sl_fun z5 b1
                have hcfv := y6 _ _ hcf
                rw [hVk] at hcfv
                have l0 : (env ++ x).length = z_n st := hs.1
                have n0 : (env ++ x ++ [.ref b, .int (Int32.ofNat c0), w])[z_n st]? = some (.ref b) := by rw [← l0]; exact (z_nx3 _ _ _ _).1
                have n1 : (env ++ x ++ [.ref b, .int (Int32.ofNat c0), w])[z_n st + 1]? = some (.int (Int32.ofNat c0)) := by rw [← l0]; exact (z_nx3 _ _ _ _).2.1
                have n2 : (env ++ x ++ [.ref b, .int (Int32.ofNat c0), w])[z_n st + 2]? = some w := by rw [← l0]; exact (z_nx3 _ _ _ _).2.2
                have hp : z_sat OB D DA cl TY PHI sz raw pu T0 H0 env0 nL (z_L st, z_S st, z_n st + 3, (z_n st + 2, z_rfV st q.2.1 q.2.2) :: (z_n st + 1, .inl ((c0 : Int), (c0 : Int))) :: (z_n st, cf) :: z_V st, (a, q.1.1.2.1, q.1.1.2.2.1, z_n st) :: z_F st, (z_n st, z_n st + 1, z_n st + 2) :: z_E st, z_rel2 (z_n st + 2) q.2.1 q.2.2 ++ z_R st, z_X st, z_C st, z_ph st) T H locs (env ++ (x ++ [.ref b, .int (Int32.ofNat c0), w])) ls stk := by
                  rw [← List.append_assoc]
                  refine ⟨by show (env ++ x ++ [.ref b, .int (Int32.ofNat c0), w]).length = z_n st + 3; rw [List.length_append, hs.1]; rfl, ?_, z_ls_app hs.2.2.1, z_stk_app hs.2.2.2.1, fun f hf => ?_, fun f hf => ?_, fun f hf => ?_, fun f hf => ?_, z_fx_app hs.2.2.2.2.2.2.2.2.1, hs.2.2.2.2.2.2.2.2.2⟩
                  · obtain ⟨w3, hw3⟩ := hs.2.1
                    exact ⟨w3 ++ [.ref b, .int (Int32.ofNat c0), w], by rw [hw3, List.append_assoc]⟩
                  · rcases List.mem_cons.mp hf with rfl | hf
                    · exact ⟨_, n2, e3⟩
                    · rcases List.mem_cons.mp hf with rfl | hf
                      · exact ⟨_, n1, z_vi ⟨by rw [hi]; exact Int.le_refl _, by rw [hi]; exact Int.le_refl _⟩⟩
                      · rcases List.mem_cons.mp hf with rfl | hf
                        · exact ⟨_, n0, hcfv⟩
                        · exact z_fv_app hs.2.2.2.2.1 f hf
                  · rcases List.mem_cons.mp hf with rfl | hf
                    · exact ⟨ad, .ref b, rc, z_app (z_app f2), n0, g2, g3, b1⟩
                    · exact z_ff_app hs.2.2.2.2.2.1 f hf
                  · rcases List.mem_cons.mp hf with rfl | hf
                    · exact ⟨b, _, w, n0, n1, by omega, n2, by rw [hi]; simpa using b2⟩
                    · exact z_fe_app hs.2.2.2.2.2.2.1 f hf
                  · rcases List.mem_append.mp hf with hf | hf
                    · exact z_rel2_ok n2 (z_app (z_app e1)) e4 e5 f hf
                    · exact z_fr_app hs.2.2.2.2.2.2.2.1 f hf
                obtain ⟨st', x', k0, k1, k2, k3, w2, k4⟩ := z_rfL_ok hA2 h hr hp
                exact ⟨st', x', k0, k1, k2, k3, [.ref b, .int (Int32.ofNat c0), w] ++ w2, by rw [k4, List.append_assoc]⟩
            · cases h
          · cases h
        · cases h
    · cases h
/-- the end that came is among the states behind the call -/
theorem z_cas_ok {As gs : List Nat} {va vr : List Value} {v : Option Value} {T' : zTp} {H1 : Heap} {locs1 : List Loc} {P : zP} {L : List zS} (hAl : As.length = va.length) (hA2 : ∀ (j a : Nat), As[j]? = some a → ∃ x, va[j]? = some x ∧ env[a]? = some x) (hgl : gs.length = (g_loc g).length) (hgs : ∀ (i : Nat) (q : zLoc × zV) (w : Nat), (g_loc g)[i]? = some q → gs[i]? = some w → ∃ v : Value, env[w]? = some v ∧ z_lv D cl H (va[q.1.1]?) q.1 v)
    (hs : z_sat OB D DA cl TY PHI sz raw pu T0 H0 env0 nL (z_bas TY cl PHI g As st) T' H1 locs1 env ls vr) (hC : z_Cs OB D cl g T' va H H1 v P) (h : z_cas TY cl PHI g As gs st P = some L) :
    ∃ st' env', st' ∈ L ∧ z_C st' = ((z_C st).1 + (g_mk g).1, (z_C st).2 + (g_mk g).2) ∧ z_sat OB D DA cl TY PHI sz raw pu T0 H0 env0 nL st' T' H1 locs1 env' ls (v.toList ++ vr) := by
  obtain ⟨hCA, hCR, hCN, hCL⟩ := hC
  unfold z_cas at h
  cases h1 : z_rfA As P.1 (z_bas TY cl PHI g As st) with
  | none => rw [h1] at h; cases h
  | some L1 =>
    obtain ⟨st1, rfl, g1, g2, g3⟩ := z_rfA_ok hA2 h1 hCA hs
    simp only [h1] at h
    have step2 : ∀ st2, z_rfL TY As ((g_loc g).zip (gs.zip P.2.2.1)) st1 = some st2 → ∃ st3 x', st2 = [st3] ∧ z_sat OB D DA cl TY PHI sz raw pu T0 H0 env0 nL st3 T' H1 locs1 (env ++ x') ls vr ∧ z_C st3 = z_C st1 ∧ z_S st3 = z_S st1 := by
      intro st2 h2
      have h2 : z_rfL TY As ((g_loc g).zip (gs.zip P.2.2.1)) st1 = some st2 := h2
      have g1' : z_sat OB D DA cl TY PHI sz raw pu T0 H0 env0 nL st1 T' H1 locs1 (env ++ []) ls vr := by rw [List.append_nil]; exact g1
      obtain ⟨st3, x', k0, k1, k2, k3, _⟩ := z_rfL_ok hA2 h2 (fun q hq => by
        obtain ⟨i, hi⟩ := List.getElem?_of_mem hq
        rw [List.getElem?_zip_eq_some, List.getElem?_zip_eq_some] at hi
        obtain ⟨hi1, hi2, hi3⟩ := hi
        obtain ⟨v0, m1, m2⟩ := hgs i _ _ hi1 hi2
        obtain ⟨w0, w, n1, n2, n3, n4, n5⟩ := hCL i _ _ hi1 hi3
        have := z_lv_fun m2 n1
        subst this
        exact ⟨v0, w, m1, n2, n3, n4, n5⟩) g1'
      exact ⟨st3, x', k0, k1, k2, k3⟩
    cases h3 : z_rfL TY As ((g_loc g).zip (gs.zip P.2.2.1)) st1 with
    | none => rw [h3] at h; cases h
    | some L2 =>
      obtain ⟨st2, x', rfl, k1, k2, k3⟩ := step2 L2 h3
      rw [h3] at h
      have h : (match z_rfL TY As (P.2.2.2.map (fun q => (q, (As[q.1.1]?).getD 0, q.2, none, none))) st2 with
        | some [st3] => (match P.2.1 with
          | none => some [st3]
          | some c => some [z_psh st3 (z_S st3) c []])
        | some _ => some []
        | none => none) = some L := h
      cases h4 : z_rfL TY As (P.2.2.2.map (fun q => (q, (As[q.1.1]?).getD 0, q.2, none, none))) st2 with
      | none => rw [h4] at h; cases h
      | some L3 =>
        obtain ⟨st3, x3, rfl, j1, j2, j3, -⟩ := z_rfL_ok hA2 h4 (fun q hq => by
          obtain ⟨q0, hq0, rfl⟩ := List.mem_map.mp hq
          obtain ⟨w, n1, n2⟩ := hCN q0 hq0
          have n1' := n1
          obtain ⟨a, r, m1, -⟩ := n1'
          have hlt : q0.1.1 < As.length := by rw [hAl]; exact (List.getElem?_eq_some_iff.mp m1).1
          have hA := List.getElem?_eq_getElem hlt
          obtain ⟨x0, y1, y2⟩ := hA2 _ _ hA
          refine ⟨x0, w, ?_, n1, n2, (fun k hk => by cases hk), (fun k hk => by cases hk)⟩
          show env[(As[q0.1.1]?).getD 0]? = some x0
          rw [hA]
          exact y2) k1
        rw [h4] at h
        have hC3 : z_C st3 = ((z_C st).1 + (g_mk g).1, (z_C st).2 + (g_mk g).2) := j2.trans (k2.trans g2)
        cases hr : P.2.1 with
        | none =>
          simp only [hr] at h
          cases h
          rw [hr] at hCR
          cases v with
          | none => exact ⟨st3, _, List.mem_singleton.mpr rfl, hC3, j1⟩
          | some x => exact hCR.elim
        | some c0 =>
          simp only [hr] at h
          cases h
          rw [hr] at hCR
          cases v with
          | none => exact hCR.elim
          | some x => exact ⟨_, _, List.mem_singleton.mpr rfl, hC3, z_sat_psh j1 j1.2.2.2.1 hCR (fun q hq => absurd hq List.not_mem_nil)⟩
end ZCALLS3
end
section
/-! The four kinds of calls. -/
def z_rcv (TY : List zTy) (st : zS) (cix : Nat) (a : Nat) : Bool := match z_get (z_V st) a with
  | some (.inr (.inl t)) => (match TY[t]? with
    | some (.inl o) => Nat.beq o.1 cix
    | _ => false)
  | _ => false
/-- kind 0 virtual, 1 static, 2 and 3 the making of an object -/
def z_inv (TY : List zTy) (PHI : List (List Nat)) (cl : List vw_C) (FT : Nat → Nat → FieldType) (R : Room) (pu : Bool) (kind cix maxL np : Nat) (g : zSig) (st : zS) : Option (List zS) :=
  cond (match kind with
    | 0 => Nat.beq (g_prm g).length (np + 1) && (g_raw g).isNone && (match (z_S st)[np]? with
      | some a => z_rcv TY st cix a
      | none => false)
    | 1 => Nat.beq (g_prm g).length np && (g_raw g).isNone
    | 4 => Nat.beq (g_prm g).length np && (g_raw g).isNone
    | _ => Nat.beq (g_prm g).length (np + 1) && (g_raw g).isSome) (z_cal TY PHI cl FT R pu maxL g st) none
def z_ins (kind i : Nat) : Instr := match kind with
  | 0 => .invokevirtual i
  | 1 => .invokestatic i
  | 4 => .invokestatic i
  | _ => .invokespecial i
section ZCALLS4
variable {p : Program} {l : Launch} {e : Env} {R : Room} {s : State} {m : MethodId} {args : Array Value} {below : List Frame} {meth : Method} {c : Code} {Q : State → Prop} {cc : ByteArray} {pc : Nat}
variable {OB : Nat → Nat} {D : va_G} {DA : Nat → ClassId} {cl : List vw_C} {FT : Nat → Nat → FieldType} {TY : List zTy} {PHI : List (List Nat)} {sz : Nat} {raw : Option Nat} {pu : Bool} {T0 : zTp} {H0 : Heap} {env0 : List Value} {nL : Nat} {st st' : zS} {T : zTp} {H : Heap} {locs : List Loc} {env : List Value} {ls : Array Slot} {stk : List Value} {g : zSig} {KXf : (Nat → Nat) → Nat → State → Heap → Prop} {rest : List Value} {cells slots : Nat} {good : Nat → zS → Prop}
variable {Ts TBL : List Cond} {own : String} {y : MethodName} {bytes : ByteArray} {maxL np i : Nat} {ret : Option FieldType}
theorem z_pre_ok {As gs : List Nat} {va : List Value} {KX : State → Heap → Prop} (hA : As.length = va.length) (hl : va.length = (g_prm g).length) (hA2 : ∀ (j a : Nat), As[j]? = some a → ∃ x, va[j]? = some x ∧ env[a]? = some x) (hgl : gs.length = (g_loc g).length) (hgs : ∀ (i : Nat) (q : zLoc × zV) (w : Nat), (g_loc g)[i]? = some q → gs[i]? = some w → ∃ v : Value, env[w]? = some v ∧ z_lv D cl H (va[q.1.1]?) q.1 v)
    (hs : z_sat OB D DA cl TY PHI sz raw pu T0 H0 env0 nL st T H locs env ls stk) (h : z_pck FT cl g As gs st = true) (hK : va_K D cl (z_tys DA) s) (hX : KX s H) (hXp : z_KXp sz KX) (hsz : sz ≤ H.size) : ∀ U : State, U.heap = H → s.WarmedH U.vm → z_Pre OB D DA cl FT TY sz KX g T va.toArray U := by
  intro U hU hW
  unfold z_pck at h
  simp only [Bool.and_eq_true] at h
  obtain ⟨⟨h1, h2⟩, h3⟩ := h
  have hmem := hs.2.2.2.2.2.2.2.2.2
  refine ⟨va, rfl, hl, fun j c0 hj hr => ?_, fun ci hci => ?_, fun q hq => ?_, by rw [hU]; exact hmem.1, hmem.2.1.1, by rw [hU]; exact hsz, va_K.moved hW.alike hK, by rw [hU]; exact hXp.1 s U H hX hW⟩
  · have hlt : j < (g_prm g).length := (List.getElem?_eq_some_iff.mp hj).1
    have h4 := List.all_eq_true.mp h1 j (List.mem_range.mpr hlt)
    have hAj := List.getElem?_eq_getElem (show j < As.length by omega)
    rw [hj, hAj] at h4
    have h4 : ((match g_raw g with
      | some _ => Nat.beq j 0
      | none => false) || (match z_get (z_V st) As[j] with
      | some c' => z_le c' c0
      | none => false)) = true := h4
    rw [Bool.or_eq_true] at h4
    obtain ⟨x, x1, x2⟩ := hA2 _ _ hAj
    rcases h4 with h4 | h4
    · cases hrr : g_raw g with
      | none => rw [hrr] at h4; cases h4
      | some ci =>
        rw [hrr] at h4 hr
        have := z_beq h4
        rcases hr with h | h
        · cases h
        · exact absurd this h
    · split at h4
      · rename_i c1 hc1
        obtain ⟨w, e1, e2⟩ := z_get_ok hs.2.2.2.2.1 hc1
        rw [x2] at e1
        cases e1
        exact ⟨_, x1, z_le_ok h4 e2⟩
      · cases h4
  · rw [hci] at h2
    have h2 : (match As[0]?, cl[ci]? with
      | some a, some r => (z_X st).any (fun p => Nat.beq p.1 a && Nat.beq p.2 ci) && (List.range r.2.2).all (fun k => !(z_zf (FT ci k)) || (match z_ffind st a ci k with
        | some w => (match z_get (z_V st) w with
          | some (.inl z) => z_ile 0 z.1 && z_ile z.2 0
          | _ => false)
        | none => false))
      | _, _ => false) = true := h2
    split at h2
    · rename_i a r ha hr
      rw [Bool.and_eq_true] at h2
      obtain ⟨q, hq, hq2⟩ := List.any_eq_true.mp h2.1
      rw [Bool.and_eq_true] at hq2
      obtain ⟨ad, g1, g2, g3, r2, V, g4, g5⟩ := z_fx_in hs.2.2.2.2.2.2.2.2.1 q hq
      rw [z_beq hq2.1] at g1
      rw [z_beq hq2.2] at g4 g5
      rw [hr] at g4
      cases g4
      obtain ⟨x, x1, x2⟩ := hA2 _ _ ha
      rw [g1] at x2
      cases x2
      refine ⟨ad, r, V, x1, g2, g3.1, hr, by rw [hU]; exact g5, fun k hk hz => ?_⟩
      have h5 := List.all_eq_true.mp h2.2 k (List.mem_range.mpr hk)
      rw [hz] at h5
      have h5 : (match z_ffind st a ci k with
        | some w => (match z_get (z_V st) w with
          | some (.inl z) => z_ile 0 z.1 && z_ile z.2 0
          | _ => false)
        | none => false) = true := by simpa using h5
      split at h5
      · rename_i w hw
        split at h5
        · rename_i z hz2
          rw [Bool.and_eq_true] at h5
          obtain ⟨a2, v2, y1, y2, cell, y3, y4, y5⟩ := z_ffind_ok hw hs
          rw [g1] at y1
          cases y1
          obtain ⟨v3, e1, x5, rfl, x6, x7⟩ := z_get_ok hs.2.2.2.2.1 hz2
          rw [y2] at e1
          cases e1
          obtain ⟨cell2, z1, z2, z3, z4⟩ := g5
          rw [y3] at z1
          cases z1
          have := z4 k hk
          rw [y5] at this
          have l1 := z_ile_ok h5.1
          have l2 := z_ile_ok h5.2
          have hx0 : x5 = 0 := z_int0 (by omega)
          rw [hx0] at this
          exact (Option.some.inj this).symm
        · cases h5
      · cases h5
    · cases h2
  · obtain ⟨i, hi⟩ := List.getElem?_of_mem hq
    have hlt : i < (g_loc g).length := (List.getElem?_eq_some_iff.mp hi).1
    have h4 := List.all_eq_true.mp h3 i (List.mem_range.mpr hlt)
    have hgi := List.getElem?_eq_getElem (show i < gs.length by omega)
    rw [hi, hgi] at h4
    obtain ⟨v, y1, y2⟩ := hgs i q _ hi hgi
    refine ⟨v, by rw [hU]; exact y2, ?_⟩
    have h4 : (match z_get (z_V st) gs[i] with
      | some c => z_le c q.2
      | none => false) = true := h4
    split at h4
    · rename_i c1 hc1
      obtain ⟨w, e1, e2⟩ := z_get_ok hs.2.2.2.2.1 hc1
      rw [y1] at e1
      cases e1
      exact z_le_ok h4 e2
    · cases h4
theorem z_foldr {f : zP → Option (List zS)} : ∀ {L : List zP} {r : List zS} {P : zP}, L.foldr (fun P acc => match f P, acc with
      | some a, some b => some (a ++ b)
      | _, _ => none) (some []) = some r → P ∈ L → ∃ a, f P = some a ∧ ∀ x ∈ a, x ∈ r
  | [], _, _, _, h => absurd h List.not_mem_nil
  | q :: L, r, P, h, hP => by
    rw [List.foldr_cons] at h
    split at h
    · rename_i a b ha hb
      cases h
      rcases List.mem_cons.mp hP with rfl | hP
      · exact ⟨a, ha, fun x hx => List.mem_append_left _ hx⟩
      · obtain ⟨a2, h1, h2⟩ := z_foldr hb hP
        exact ⟨a2, h1, fun x hx => List.mem_append_right _ (h2 x hx)⟩
    · cases h
theorem z_blind {KX : State → Heap → Prop} (hXp : z_KXp sz KX) : FrameBlind (z_Pre OB D DA cl FT TY sz KX g T) := by
  intro a U gf mk h
  obtain ⟨vals, h1, h2, h3, h4, h5, h6, h7, h8, h9, h10⟩ := h
  exact ⟨vals, h1, h2, h3, h4, h5, h6, h7, h8, va_K.moved (u := U) (U := U.calling gf mk a) (Vm.Alike.refl U.vm) h9, hXp.2.2 U (U.calling gf mk a) _ rfl h10⟩
theorem z_r_inv (hg : z_Good p l e R s m args below meth c Q OB D DA cl TY PHI sz raw pu T0 H0 env0 nL good) (hx : p.tables.exec = Jvm.exec) (hb : c.code = cc) (hml : c.maxLocals = nL) (hD : z_Dy s m args Ts own D cl DA (z_tys DA)) (hsz : sz ≤ H0.size) (hXp : z_KXp sz (KXf OB sz)) (hX : KXf OB sz s H0)
    {kind cix : Nat} (hok : z_OK TBL cl FT TY PHI KXf y bytes maxL ret g) (hlk : z_lk Ts own kind i y bytes maxL ret np) (hgd : ∀ w ∈ TBL, w ∈ Ts ∧ z_gw w = true) (hci : kind = 0 → ∃ r, cl[cix]? = some r ∧ r.1 = y.cls)
    (hd : decode cc pc = .ok (z_ins kind i, 3)) {L : List zS} (h : z_inv TY PHI cl FT R pu kind cix maxL np g st = some L) (hall : ∀ st' ∈ L, good (pc + 3) st') : good pc st := by
  refine (hg _ _).mpr fun T H locs env ls stk hs => ?_
  unfold z_inv at h
  obtain ⟨hcode, hini, hmh, hnp, hkind⟩ := hlk
  obtain ⟨hts, hown, hK, htys⟩ := hD
  have hmem := hs.2.2.2.2.2.2.2.2.2
  have hH : sz ≤ H.size := Nat.le_trans hsz hmem.2.2.2.2.1
  have hXH : KXf OB sz s H := hXp.2.1 s H0 H hX hmem.2.2.2.2.1 hmem.2.2.2.2.2.1
  have hnp2 : ∀ sig, parseMethodDescriptor y.desc = some sig → np = sig.parameters.length := by
    intro sig hsig
    rw [hsig] at hnp
    exact (Option.some.inj hnp).symm
  have hwsG : ∀ w ∈ (Cond.code y bytes maxL ret :: TBL), ∀ (a' : Array Value) (U : State), s.WarmedH U.vm → w.before a' U = true := by
    refine z_pay hts (fun w hw => ?_)
    rcases List.mem_cons.mp hw with rfl | hw
    · exact ⟨hcode, rfl⟩
    · exact ⟨(hgd w hw).1, (hgd w hw).2⟩
  -- the common part
  have common : ∀ (hc : z_cal TY PHI cl FT R pu maxL g st = some L), ∃ (va vr : List Value), stk = va.reverse ++ vr ∧ va.length = (g_prm g).length ∧ (∀ U : State, U.heap = H → s.WarmedH U.vm → z_Pre OB D DA cl FT TY sz (KXf OB sz) g T va.toArray U) ∧
      (vr.map fun v => v.category).sum ≤ 8 ∧ (g_rm g).1 + 1 ≤ R.frames ∧ 8 + (maxL + 11) + (g_rm g).2 ≤ R.locals ∧ (z_C st).1 + (g_mk g).1 ≤ R.cells ∧ (z_C st).2 + (g_mk g).2 ≤ R.slots ∧
      ((g_raw g).isSome = true → ∃ b : Nat, va[0]? = some (.ref b)) ∧ (∀ (a n : Nat), (g_prm g).length = n + 1 → (z_S st)[n]? = some a → ∃ v, va[0]? = some v ∧ env[a]? = some v) ∧
      ∀ (v : Option Value) (s1 t : State) (H1 : Heap) (locs1 : List Loc), s1.heap = H → t.heap = H1 → z_Post OB D DA cl TY PHI sz g T va.toArray s1 (.returned v) t → va_S (fun q => sz ≤ q) H0 H1 locs1 → W p l e R s m args below meth c H1 locs1 ((z_C st).1 + (g_mk g).1) ((z_C st).2 + (g_mk g).2) Q (F0 m (pc + 3) ls (v.toList ++ vr)) := by
    intro hc
    unfold z_cal at hc
    split at hc
    · rename_i As rs hpop
      obtain ⟨va, vr, rfl, w1, w2, w3, w4⟩ := z_popn_ok _ hpop hs.2.2.2.1
      split at hc
      · rename_i st1 gs hgl
        have hs0 := z_sat_stS hs w3
        obtain ⟨x, g1, ⟨x1, x2, x3, x4, x5, x6⟩, g3, g4⟩ := z_gls_ok hgl hs0
        split at hc
        · rename_i n hn
          cases hcc : (Nat.ble n 8 && z_pck FT cl g As gs st1 && Nat.ble ((z_C st1).1 + (g_mk g).1) R.cells && Nat.ble ((z_C st1).2 + (g_mk g).2) R.slots && Nat.ble ((g_rm g).1 + 1) R.frames && Nat.ble (8 + (maxL + 11) + (g_rm g).2) R.locals && (Nat.beq (g_ph g) 0 || (Nat.beq (z_ph st1) 0 || (Nat.blt (z_ph st1) 1000 && Nat.blt (g_ph g) 1000))) && (g_pur g || !pu)) with
          | false => rw [hcc] at hc; cases hc
          | true =>
            rw [hcc] at hc
            simp only [Bool.and_eq_true] at hcc
            obtain ⟨⟨⟨⟨⟨⟨⟨c1, c2⟩, c3⟩, c4⟩, c5⟩, c6⟩, c7⟩, c8⟩ := hcc
            have hcat := z_csum_ok hn g1 (z_stk_app w3)
            have hA2 : ∀ (j a : Nat), As[j]? = some a → ∃ x', va[j]? = some x' ∧ (env ++ x)[a]? = some x' := fun j a hj => by
              obtain ⟨v, e1, e2⟩ := w4 j a hj
              exact ⟨v, e1, z_app e2⟩
            have hgs : ∀ (i : Nat) (q : zLoc × zV) (w : Nat), (g_loc g)[i]? = some q → gs[i]? = some w → ∃ v : Value, (env ++ x)[w]? = some v ∧ z_lv D cl H (va[q.1.1]?) q.1 v := by
              intro i q w hi hw
              obtain ⟨v, d, m1, m2, m3⟩ := g4 i q w hi hw
              obtain ⟨v2, n1, n2⟩ := hA2 _ _ m2
              rw [n2, ← n1] at m3
              exact ⟨v, m1, m3⟩
            have hCst : z_C st1 = z_C st := x4
            have hlen : va.length = (g_prm g).length := w1
            refine ⟨va, vr, rfl, hlen, z_pre_ok (w2.trans w1.symm) hlen hA2 g3 hgs g1 c2 hK hXH hXp hH, by rw [hcat]; exact Nat.le_of_ble_eq_true c1, Nat.le_of_ble_eq_true c5, Nat.le_of_ble_eq_true c6, by rw [← hCst]; exact Nat.le_of_ble_eq_true c3, by rw [← hCst]; exact Nat.le_of_ble_eq_true c4, fun hr => ?_, fun a n hpn ha => ?_, fun v s1 t H1 locs1 y1 y2 y3 y4 => ?_⟩
            · cases hrr : g_raw g with
              | none => rw [hrr] at hr; cases hr
              | some ci =>
                obtain ⟨vals, z1, _, _, z4, _⟩ := z_pre_ok (KX := KXf OB sz) (w2.trans w1.symm) hlen hA2 g3 hgs g1 c2 hK hXH hXp hH { s with heap := H } rfl (State.WarmedH.refl s)
                have : va = vals := by have := congrArg Array.toList z1; simpa using this
                subst this
                obtain ⟨a, r, V, z5, _⟩ := z4 ci hrr
                exact ⟨a, z5⟩
            · obtain ⟨h5, h6⟩ := z_cond hpop
              cases h6
              have hle := Nat.le_of_ble_eq_true h5
              have h0 : ((List.take (g_prm g).length (z_S st)).reverse)[0]? = some a := by
                rw [hpn]
                rw [hpn] at hle
                rw [List.getElem?_reverse (by simp; omega)]
                have : (List.take (n + 1) (z_S st)).length - 1 - 0 = n := by simp; omega
                rw [this, List.getElem?_take_of_lt (by omega)]
                exact ha
              exact w4 0 a h0
            · have hph : g_ph g = 0 ∨ (z_ph st1 = 0 ∨ (Nat.blt (z_ph st1) 1000 = true ∧ Nat.blt (g_ph g) 1000 = true)) := by
                rw [Bool.or_eq_true, Bool.or_eq_true, Bool.and_eq_true] at c7
                exact c7.imp z_beq (fun h => h.imp z_beq id)
              have hpu : g_pur g = true ∨ pu = false := by
                rw [Bool.or_eq_true] at c8
                exact c8.imp id (fun h => by simpa using h)
              have hraw : ∀ ci, g_raw g = some ci → ∃ a, As[0]? = some a ∧ z_isx st1 a = true := by
                intro ci hci
                unfold z_pck at c2
                simp only [Bool.and_eq_true] at c2
                have c2 := c2.1.2
                rw [hci] at c2
                have c2 : (match As[0]?, cl[ci]? with
                  | some a, some r => (z_X st1).any (fun p => Nat.beq p.1 a && Nat.beq p.2 ci) && (List.range r.2.2).all (fun k => !(z_zf (FT ci k)) || (match z_ffind st1 a ci k with
                    | some w => (match z_get (z_V st1) w with
                      | some (.inl z) => z_ile 0 z.1 && z_ile z.2 0
                      | _ => false)
                    | none => false))
                  | _, _ => false) = true := c2
                split at c2
                · rename_i a r ha hr
                  rw [Bool.and_eq_true] at c2
                  obtain ⟨q, hq, hq2⟩ := List.any_eq_true.mp c2.1
                  rw [Bool.and_eq_true] at hq2
                  exact ⟨a, ha, List.any_eq_true.mpr ⟨q, hq, hq2.1⟩⟩
                · cases c2
              obtain ⟨T', P, z1, z2, z3, z4, z5⟩ := z_bas_ok g1 (w2.trans w1.symm) hA2 hraw hph hpu y1 y2 y4 y3
              obtain ⟨L1, hL1, hL2⟩ := z_foldr hc z2
              obtain ⟨st', env', u1, u2, u3⟩ := z_cas_ok (w2.trans w1.symm) hA2 g3 hgs z1 z3 hL1
              have kk := (hg _ _).mp (hall st' (hL2 st' u1)) T' H1 locs1 env' ls _ u3
              rw [u2, hCst] at kk
              exact kk
        · cases hc
      · cases hc
    · cases hc
  match kind, hkind, hd, hci, h with
  | 0, hkind, hd, hci, h =>
    obtain ⟨k1, k2, k3⟩ := hkind
    cases hcond : (Nat.beq (g_prm g).length (np + 1) && (g_raw g).isNone && (match (z_S st)[np]? with
      | some a => z_rcv TY st cix a
      | none => false)) with
    | false => simp only [hcond] at h; cases h
    | true =>
      simp only [hcond] at h
      obtain ⟨va, vr, rfl, w1, w2, w3, w4, w5, w6, w7, w8, w9, w10⟩ := common h
      simp only [Bool.and_eq_true] at hcond
      obtain ⟨⟨d1, d2⟩, d3⟩ := hcond
      have hpl := z_beq d1
      cases hsn : (z_S st)[np]? with
      | none => rw [hsn] at d3; cases d3
      | some a =>
        rw [hsn] at d3
        have d3 : z_rcv TY st cix a = true := d3
        unfold z_rcv at d3
        split at d3
        · rename_i t ht
          split at d3
          · rename_i o hto
            obtain ⟨ci, fl⟩ := o
            have hcc : ci = cix := z_beq d3
            subst hcc
            obtain ⟨b, r, V, y1, y2, y3, y4, ⟨cell, y5, y6, y7, y8⟩, y9⟩ := z_obj hs ht hto
            obtain ⟨v0, e1, e2⟩ := w9 a np hpl hsn
            rw [y1] at e2
            cases e2
            obtain ⟨r2, hr2, hr3⟩ := hci rfl
            rw [y3] at hr2
            cases hr2
            cases va with
            | nil => simp at e1
            | cons v0 As2 =>
              have : v0 = .ref b := by simpa using e1
              subst this
              have hAl : As2.length = np := by
                have : (Value.ref b :: As2).length = (g_prm g).length := w1
                rw [hpl] at this
                simpa using this
              have hstk : (Value.ref b :: As2).reverse ++ vr = As2.reverse ++ .ref b :: vr := by simp
              rw [hstk]
              refine z_after (va_runV (b := b) (As := As2) (rest := vr) (C := y.cls) (n := np) ⟨hx, hb, hml, hown, hts⟩ (hok l OB D DA sz T) ⟨⟨rfl, rfl, w4, w5, hwsG, List.mem_cons_self, hts _ hcode, hts _ hini, hmh, hnp2, hts _ k1⟩, hts _ k2, hts _ k3⟩ ⟨z_blind hXp, ⟨cell, y5, by rw [y7]; rfl, ?_⟩, w2⟩ rfl hAl ?_ rfl (lv_room w3) hd ⟨w6, w7⟩) hmem.2.2.2.2 w10
              · rw [← hr3, y6]; exact (hK.1 _ _ y3).2.1
              · obtain ⟨lv, z1, _⟩ := hs.2.2.1; exact z1.1
          · cases d3
        · cases d3
  | 1, hkind, hd, hci, h =>
    obtain ⟨k1, k2⟩ := hkind
    cases hcond : (Nat.beq (g_prm g).length np && (g_raw g).isNone) with
    | false => simp only [hcond] at h; cases h
    | true =>
      simp only [hcond] at h
      obtain ⟨va, vr, rfl, w1, w2, w3, w4, w5, w6, w7, w8, w9, w10⟩ := common h
      simp only [Bool.and_eq_true] at hcond
      have hpl := z_beq hcond.1
      refine z_after (va_runS (As := va) (rest := vr) (n := np) ⟨hx, hb, hml, hown, hts⟩ (hok l OB D DA sz T) ⟨⟨rfl, rfl, w4, w5, hwsG, List.mem_cons_self, hts _ hcode, hts _ hini, hmh, hnp2, hts _ k1⟩, hts _ k2⟩ ⟨z_blind hXp, w2⟩ rfl (w1.trans hpl) ?_ rfl (lv_room w3) hd ⟨w6, w7⟩) hmem.2.2.2.2 w10
      obtain ⟨lv, z1, _⟩ := hs.2.2.1
      exact z1.1
  | 2, hkind, hd, hci, h =>
    obtain ⟨k1, k2, k3, rfl⟩ := hkind
    cases hcond : (Nat.beq (g_prm g).length (np + 1) && (g_raw g).isSome) with
    | false => simp only [hcond] at h; cases h
    | true =>
      simp only [hcond] at h
      obtain ⟨va, vr, rfl, w1, w2, w3, w4, w5, w6, w7, w8, w9, w10⟩ := common h
      simp only [Bool.and_eq_true] at hcond
      have hpl := z_beq hcond.1
      obtain ⟨b, hb0⟩ := w8 hcond.2
      cases va with
      | nil => simp at hb0
      | cons v0 As2 =>
        have : v0 = .ref b := by simpa using hb0
        subst this
        have hAl : As2.length = np := by
          have : (Value.ref b :: As2).length = (g_prm g).length := w1
          rw [hpl] at this
          simpa using this
        have hstk : (Value.ref b :: As2).reverse ++ vr = As2.reverse ++ .ref b :: vr := by simp
        rw [hstk]
        refine z_after (va_runI (b := b) (As := As2) (rest := vr) (n := np) ⟨hx, hb, hml, hown, hts⟩ (hok l OB D DA sz T) ⟨⟨rfl, rfl, w4, w5, hwsG, List.mem_cons_self, hts _ hcode, hts _ hini, hmh, hnp2, hts _ k1⟩, k3, hts _ k2⟩ ⟨z_blind hXp, w2⟩ rfl hAl ?_ rfl (lv_room w3) hd ⟨w6, w7⟩) hmem.2.2.2.2 w10
        obtain ⟨lv, z1, _⟩ := hs.2.2.1
        exact z1.1
  | 3, hkind, hd, hci, h =>
    obtain ⟨⟨host, k1⟩, k2, k3, rfl⟩ := hkind
    cases hcond : (Nat.beq (g_prm g).length (np + 1) && (g_raw g).isSome) with
    | false => simp only [hcond] at h; cases h
    | true =>
      simp only [hcond] at h
      obtain ⟨va, vr, rfl, w1, w2, w3, w4, w5, w6, w7, w8, w9, w10⟩ := common h
      simp only [Bool.and_eq_true] at hcond
      have hpl := z_beq hcond.1
      obtain ⟨b, hb0⟩ := w8 hcond.2
      cases va with
      | nil => simp at hb0
      | cons v0 As2 =>
        have : v0 = .ref b := by simpa using hb0
        subst this
        have hAl : As2.length = np := by
          have : (Value.ref b :: As2).length = (g_prm g).length := w1
          rw [hpl] at this
          simpa using this
        have hstk : (Value.ref b :: As2).reverse ++ vr = As2.reverse ++ .ref b :: vr := by simp
        rw [hstk]
        refine z_after (va_runIN (b := b) (As := As2) (rest := vr) (n := np) ⟨hx, hb, hml, hown, hts⟩ (hok l OB D DA sz T) ⟨⟨⟨rfl, rfl, w4, w5, hwsG, List.mem_cons_self⟩, hts _ hcode, hts _ hini, hmh, hnp2, hts _ k1⟩, k3, hts _ k2⟩ ⟨z_blind hXp, w2⟩ rfl hAl ?_ rfl (lv_room w3) hd ⟨w6, w7⟩) hmem.2.2.2.2 w10
        obtain ⟨lv, z1, _⟩ := hs.2.2.1
        exact z1.1
  | 4, hkind, hd, hci, h =>
    obtain ⟨⟨host, k1⟩, k2⟩ := hkind
    cases hcond : (Nat.beq (g_prm g).length np && (g_raw g).isNone) with
    | false => simp only [hcond] at h; cases h
    | true =>
      simp only [hcond] at h
      obtain ⟨va, vr, rfl, w1, w2, w3, w4, w5, w6, w7, w8, w9, w10⟩ := common h
      simp only [Bool.and_eq_true] at hcond
      have hpl := z_beq hcond.1
      refine z_after (va_runSN (As := va) (rest := vr) (n := np) ⟨hx, hb, hml, hown, hts⟩ (hok l OB D DA sz T) ⟨⟨⟨rfl, rfl, w4, w5, hwsG, List.mem_cons_self⟩, hts _ hcode, hts _ hini, hmh, hnp2, hts _ k1⟩, hts _ k2, trivial⟩ ⟨z_blind hXp, w2⟩ rfl (w1.trans hpl) ?_ rfl (lv_room w3) hd ⟨w6, w7⟩) hmem.2.2.2.2 w10
      obtain ⟨lv, z1, _⟩ := hs.2.2.1
      exact z1.1
  | k + 5, hkind, hd, hci, h =>
    obtain ⟨⟨host, k1⟩, k2, k3, rfl⟩ := hkind
    cases hcond : (Nat.beq (g_prm g).length (np + 1) && (g_raw g).isSome) with
    | false => simp only [hcond] at h; cases h
    | true =>
      simp only [hcond] at h
      obtain ⟨va, vr, rfl, w1, w2, w3, w4, w5, w6, w7, w8, w9, w10⟩ := common h
      simp only [Bool.and_eq_true] at hcond
      have hpl := z_beq hcond.1
      obtain ⟨b, hb0⟩ := w8 hcond.2
      cases va with
      | nil => simp at hb0
      | cons v0 As2 =>
        have : v0 = .ref b := by simpa using hb0
        subst this
        have hAl : As2.length = np := by
          have : (Value.ref b :: As2).length = (g_prm g).length := w1
          rw [hpl] at this
          simpa using this
        have hstk : (Value.ref b :: As2).reverse ++ vr = As2.reverse ++ .ref b :: vr := by simp
        rw [hstk]
        refine z_after (va_runIN (b := b) (As := As2) (rest := vr) (n := np) ⟨hx, hb, hml, hown, hts⟩ (hok l OB D DA sz T) ⟨⟨⟨rfl, rfl, w4, w5, hwsG, List.mem_cons_self⟩, hts _ hcode, hts _ hini, hmh, hnp2, hts _ k1⟩, k3, hts _ k2⟩ ⟨z_blind hXp, w2⟩ rfl hAl ?_ rfl (lv_room w3) hd ⟨w6, w7⟩) hmem.2.2.2.2 w10
        obtain ⟨lv, z1, _⟩ := hs.2.2.1
        exact z1.1
end ZCALLS4
end
section
/-! One step. -/
/-- a method: name, code, locals, answer, parameters (without this), the place of its class -/
abbrev zM : Type := MethodName × ByteArray × Nat × Option FieldType × Nat × Nat
/-- what a method's check is given: fields, classes, links (index, kind, method), constants, calls (place, contract), arrays (place, type), acts ahead of a place -/
abbrev zK : Type := List (Nat × Nat × Nat) × List (Nat × Nat) × List (Nat × Nat × Nat) × List (Nat × Int32) × List (Nat × Nat) × List (Nat × Nat) × List (Nat × Nat × Nat × Int) × Option Nat
abbrev k_FL (k : zK) := k.1
abbrev k_CL (k : zK) := k.2.1
abbrev k_LK (k : zK) := k.2.2.1
abbrev k_CT (k : zK) := k.2.2.2.1
abbrev k_CA (k : zK) := k.2.2.2.2.1
abbrev k_NA (k : zK) := k.2.2.2.2.2.1
abbrev k_AC (k : zK) := k.2.2.2.2.2.2.1
abbrev k_IN (k : zK) := k.2.2.2.2.2.2.2
def z_one (len k pc : Nat) (o : Option zS) : Option (List (Nat × zS)) := cond (Nat.beq len k) (o.map (fun s => [(pc + k, s)])) none
def z_all (len k pc : Nat) (o : Option (List zS)) : Option (List (Nat × zS)) := cond (Nat.beq len k) (o.map (fun L => L.map (fun s => (pc + k, s)))) none
def z_calls (TY : List zTy) (PHI : List (List Nat)) (cl : List vw_C) (FT : Nat → Nat → FieldType) (MT : List zM) (SG : List (Nat × zSig)) (R : Room) (pu : Bool) (K : zK) (kinds : Nat → Bool) (pc i : Nat) (st : zS) : Option (List zS) := match (k_LK K).find? (fun q => Nat.beq q.1 i && kinds q.2.1) with
  | some q => (k_CA K).findSome? (fun a => cond (Nat.beq a.1 pc) (match SG[a.2]? with
    | some g => cond (Nat.beq g.1 q.2.2) (match MT[g.1]? with
      | some m => z_inv TY PHI cl FT R pu q.2.1 m.2.2.2.2.2 m.2.2.1 m.2.2.2.2.1 g.2 st
      | none => none) none
    | none => none) none)
  | none => none
/-- the making of an Object -/
def z_obi (R : Room) (K : zK) (i : Nat) (st : zS) : Option zS := match z_S st, (k_LK K).find? (fun q => Nat.beq q.1 i && Nat.beq q.2.1 9) with
  | d :: S, some _ => cond (z_isr st d && Nat.ble 1 R.frames) (match z_csum st S with
    | some n => cond (Nat.ble (n + 12) R.locals) (some (z_stS st S)) none
    | none => none) none
  | _, _ => none
def z_step (TY : List zTy) (PHI : List (List Nat)) (cl : List vw_C) (FT : Nat → Nat → FieldType) (MT : List zM) (SG : List (Nat × zSig)) (RO : List Nat) (R : Room) (pu : Bool) (nL : Nat) (K : zK) (pc : Nat) (ins : Instr) (len : Nat) (st : zS) : Option (List (Nat × zS)) := match ins with
  | .iconst n => z_one len 1 pc (z_iconst st n)
  | .bipush n => z_one len 2 pc (z_bip st n)
  | .sipush n => z_one len 3 pc (z_sip st n)
  | .ldc i => z_one len 2 pc (match (k_CT K).find? (fun q => Nat.beq q.1 i) with
    | some q => z_iconst st q.2.toInt
    | none => none)
  | .ldc_w i => z_one len 3 pc (match (k_CT K).find? (fun q => Nat.beq q.1 i) with
    | some q => z_iconst st q.2.toInt
    | none => none)
  | .iload i => z_one len 2 pc (z_iload st i)
  | .iload_n i => z_one len 1 pc (z_iload st i.val)
  | .aload i => z_one len 2 pc (z_aload st i)
  | .aload_n i => z_one len 1 pc (z_aload st i.val)
  | .istore i => z_one len 2 pc (z_istore nL st i)
  | .istore_n i => z_one len 1 pc (z_istore nL st i.val)
  | .astore i => z_one len 2 pc (z_astore nL st i)
  | .astore_n i => z_one len 1 pc (z_astore nL st i.val)
  | .iinc i n => z_one len 3 pc (z_iinc nL st i n)
  | .dup => z_one len 1 pc (z_dup st)
  | .dup_x1 => z_one len 1 pc (z_dupx1 st)
  | .dup2 => z_one len 1 pc (z_dup2 st)
  | .pop => z_one len 1 pc (z_pop st)
  | .iadd => z_one len 1 pc (z_iadd st)
  | .isub => z_one len 1 pc (z_isub st)
  | .imul => z_one len 1 pc (z_bin z_mul st)
  | .idiv => z_one len 1 pc (z_bin0 z_div st)
  | .irem => z_one len 1 pc (z_bin0 z_rem st)
  | .iand => z_one len 1 pc (z_bin z_and st)
  | .ior => z_one len 1 pc (z_bin z_or st)
  | .ixor => z_one len 1 pc (z_bin z_xor st)
  | .ishl => z_one len 1 pc (z_bin z_shl st)
  | .ishr => z_one len 1 pc (z_bin z_shr st)
  | .iushr => z_one len 1 pc (z_bin z_ushr st)
  | .ineg => z_one len 1 pc (z_un z_neg st)
  | .i2b => z_one len 1 pc (z_un z_i2b st)
  | .i2c => z_one len 1 pc (z_un z_i2c st)
  | .if_icmp k off => cond (Nat.beq len 3) (z_icmp st pc k off) none
  | .ifCond k off => cond (Nat.beq len 3) (z_icnd st pc k off) none
  | .goto off => cond (Nat.beq len 3) ((z_to pc off).map (fun t => [(t, st)])) none
  | .tableswitch d lo hi offs => z_tsw st pc d lo hi offs.toList
  | .lookupswitch d ps => z_lsw st pc d ps.toList
  | .getfield i => z_one len 3 pc (z_getf TY (k_FL K) st i)
  | .putfield i => cond pu none (z_one len 3 pc (z_putf TY cl FT (k_IN K) (k_FL K) st i))
  | .iaload => z_one len 1 pc (z_ald TY 0 st)
  | .baload => z_one len 1 pc (z_ald TY 1 st)
  | .laload => z_one len 1 pc (z_ald TY 2 st)
  | .iastore => cond pu none (z_one len 1 pc (z_ast TY RO 0 st))
  | .bastore => cond pu none (z_one len 1 pc (z_ast TY RO 1 st))
  | .lastore => cond pu none (z_one len 1 pc (z_ast TY RO 2 st))
  | .arraylength => z_one len 1 pc (z_alen TY st)
  | .newarray a => cond pu none (z_one len 2 pc (match z_at a, (k_NA K).find? (fun q => Nat.beq q.1 pc) with
    | some ek, some q => z_nwa TY R.cells R.slots q.2 ek st
    | _, _ => none))
  | .new i => cond pu none (z_one len 3 pc (z_new (k_CL K) cl FT R.cells R.slots st i))
  | .lconst _ => z_one len 1 pc (z_lc0 st)
  | .lshl => z_one len 1 pc (z_lsh st)
  | .lor => z_one len 1 pc (z_l2 (.inr (.inr 0)) st)
  | .lcmp => z_one len 1 pc (z_l2 (.inl z_full) st)
  | .invokevirtual i => z_all len 3 pc (z_calls TY PHI cl FT MT SG R pu K (fun k => Nat.beq k 0) pc i st)
  | .invokestatic i => cond ((k_LK K).any (fun q => Nat.beq q.1 i && Nat.beq q.2.1 8)) (cond pu none (z_one len 3 pc (z_acp TY RO R st))) (z_all len 3 pc (z_calls TY PHI cl FT MT SG R pu K (fun k => Nat.beq k 1 || Nat.beq k 4) pc i st))
  | .invokespecial i => (match z_obi R K i st with
    | some s => z_one len 3 pc (some s)
    | none => z_all len 3 pc (z_calls TY PHI cl FT MT SG R pu K (fun k => Nat.beq k 2 || Nat.beq k 3) pc i st))
  | _ => none
/-- what the tables say of a method's own places -/
def z_KS (Ts TBL : List Cond) (cl : List vw_C) (FT : Nat → Nat → FieldType) (own : String) (MT : List zM) (K : zK) : Prop :=
  z_St Ts cl FT own (k_FL K) ∧ (∀ q ∈ k_CL K, ∃ r, cl[q.2]? = some r ∧ Cond.classLink own q.1 r.1 ∈ Ts ∧ Cond.instantiable r.1 r.2.2 ∈ Ts ∧ Cond.initialized r.1 ∈ Ts) ∧
  (∀ q ∈ k_LK K, (q.2.1 = 9 → Cond.methodLink own q.1 Lib.objectInit ∈ Ts ∧ Cond.instanceMethod Lib.objectInit ∈ Ts ∧ Cond.code Lib.objectInit ⟨#[0xb1]⟩ 1 none ∈ Ts) ∧ (q.2.1 = 8 → Cond.methodLink own q.1 arraycopyName ∈ Ts ∧ Cond.native arraycopyName ∈ Ts ∧ Cond.static arraycopyName ∈ Ts ∧ Cond.initialized "java/lang/System" ∈ Ts) ∧ (q.2.1 ≤ 4 → ∃ mm, MT[q.2.2]? = some mm ∧ z_lk Ts own q.2.1 q.1 mm.1 mm.2.1 mm.2.2.1 mm.2.2.2.1 mm.2.2.2.2.1 ∧ (q.2.1 = 0 → ∃ r, cl[mm.2.2.2.2.2]? = some r ∧ r.1 = mm.1.cls))) ∧
  (∀ q ∈ k_CT K, Cond.constant own q.1 q.2 ∈ Ts) ∧ (∀ k, k < 3 → Cond.arrayClass (z_ek k) ∈ Ts) ∧ (∀ w ∈ TBL, w ∈ Ts ∧ z_gw w = true) ∧ (∀ j r, k_IN K = some j → cl[j]? = some r → r.1 = own)
section ZSTEP
variable {p : Program} {l : Launch} {e : Env} {R : Room} {s : State} {m : MethodId} {args : Array Value} {below : List Frame} {meth : Method} {c : Code} {Q : State → Prop} {cc : ByteArray} {pc : Nat}
variable {OB : Nat → Nat} {D : va_G} {DA : Nat → ClassId} {cl : List vw_C} {FT : Nat → Nat → FieldType} {TY : List zTy} {PHI : List (List Nat)} {sz : Nat} {raw : Option Nat} {pu : Bool} {T0 : zTp} {H0 : Heap} {env0 : List Value} {nL : Nat} {st st' : zS} {KXf : (Nat → Nat) → Nat → State → Heap → Prop} {good : Nat → zS → Prop}
variable {Ts TBL : List Cond} {own : String} {MT : List zM} {SG : List (Nat × zSig)} {RO : List Nat} {K : zK}
theorem z_one_ok {len k : Nat} {o : Option zS} {L : List (Nat × zS)} (h : z_one len k pc o = some L) (hall : ∀ q ∈ L, good q.1 q.2) : len = k ∧ ∃ st', o = some st' ∧ good (pc + k) st' := by
  unfold z_one at h
  cases hb : Nat.beq len k with
  | false => rw [hb] at h; cases h
  | true =>
    rw [hb] at h
    cases o with
    | none => cases h
    | some s =>
      cases h
      exact ⟨z_beq hb, s, rfl, hall _ (List.mem_singleton.mpr rfl)⟩
theorem z_all_ok {len k : Nat} {o : Option (List zS)} {L : List (Nat × zS)} (h : z_all len k pc o = some L) (hall : ∀ q ∈ L, good q.1 q.2) : len = k ∧ ∃ L', o = some L' ∧ ∀ s ∈ L', good (pc + k) s := by
  unfold z_all at h
  cases hb : Nat.beq len k with
  | false => rw [hb] at h; cases h
  | true =>
    rw [hb] at h
    cases o with
    | none => cases h
    | some L' =>
      cases h
      exact ⟨z_beq hb, L', rfl, fun s hs => hall (pc + k, s) (List.mem_map.mpr ⟨s, hs, rfl⟩)⟩
theorem z_calls_ok (hg : z_Good p l e R s m args below meth c Q OB D DA cl TY PHI sz raw pu T0 H0 env0 nL good) (hx : p.tables.exec = Jvm.exec) (hb : c.code = cc) (hml : c.maxLocals = nL) (hD : z_Dy s m args Ts own D cl DA (z_tys DA)) (hsz : sz ≤ H0.size) (hXp : z_KXp sz (KXf OB sz)) (hX : KXf OB sz s H0) (hKS : z_KS Ts TBL cl FT own MT K)
    (hok : ∀ g ∈ (k_CA K).filterMap (fun a => SG[a.2]?), ∀ mm, MT[g.1]? = some mm → z_OK TBL cl FT TY PHI KXf mm.1 mm.2.1 mm.2.2.1 mm.2.2.2.1 g.2) {i : Nat} {kinds : Nat → Bool} {ins : Instr} (hk : ∀ k, kinds k = true → k ≤ 4 ∧ z_ins k i = ins) (hd : decode cc pc = .ok (ins, 3)) {L : List zS} (h : z_calls TY PHI cl FT MT SG R pu K kinds pc i st = some L) (hall : ∀ s ∈ L, good (pc + 3) s) : good pc st := by
  unfold z_calls at h
  split at h
  · rename_i q hq
    have hm := List.mem_of_find?_eq_some hq
    have hp := List.find?_some hq
    rw [Bool.and_eq_true] at hp
    have hi : q.1 = i := z_beq hp.1
    obtain ⟨hk1, hk2⟩ := hk _ hp.2
    obtain ⟨a, ha, ha2⟩ := List.exists_of_findSome?_eq_some h
    cases hb1 : Nat.beq a.1 pc with
    | false => rw [hb1] at ha2; cases ha2
    | true =>
      rw [hb1] at ha2
      have ha2 : (match SG[a.2]? with
        | some g => cond (Nat.beq g.1 q.2.2) (match MT[g.1]? with
          | some m => z_inv TY PHI cl FT R pu q.2.1 m.2.2.2.2.2 m.2.2.1 m.2.2.2.2.1 g.2 st
          | none => none) none
        | none => none) = some L := ha2
      split at ha2
      · rename_i g hg2
        cases hb2 : Nat.beq g.1 q.2.2 with
        | false => rw [hb2] at ha2; cases ha2
        | true =>
          rw [hb2] at ha2
          have ha2 : (match MT[g.1]? with
            | some m => z_inv TY PHI cl FT R pu q.2.1 m.2.2.2.2.2 m.2.2.1 m.2.2.2.2.1 g.2 st
            | none => none) = some L := ha2
          split at ha2
          · rename_i mm hmm
            have hgq := z_beq hb2
            obtain ⟨mm2, k1, k2, k3⟩ := (hKS.2.2.1 q hm).2.2 hk1
            rw [← hgq, hmm] at k1
            cases k1
            rw [hi] at k2
            exact z_r_inv hg hx hb hml hD hsz hXp hX (hok g (List.mem_filterMap.mpr ⟨a, ha, hg2⟩) _ hmm) k2 hKS.2.2.2.2.2.1 k3 (by rw [hk2]; exact hd) ha2 hall
          · cases ha2
      · cases ha2
  · cases h
end ZSTEP
end
section
/-! A step is sound. -/
section ZSTEP2
variable {p : Program} {l : Launch} {e : Env} {R : Room} {s : State} {m : MethodId} {args : Array Value} {below : List Frame} {meth : Method} {c : Code} {Q : State → Prop} {cc : ByteArray} {pc : Nat}
variable {OB : Nat → Nat} {D : va_G} {DA : Nat → ClassId} {cl : List vw_C} {FT : Nat → Nat → FieldType} {TY : List zTy} {PHI : List (List Nat)} {sz : Nat} {raw : Option Nat} {pu : Bool} {T0 : zTp} {H0 : Heap} {env0 : List Value} {nL : Nat} {st st' : zS} {KXf : (Nat → Nat) → Nat → State → Heap → Prop} {good : Nat → zS → Prop}
variable {Ts TBL : List Cond} {own : String} {MT : List zM} {SG : List (Nat × zSig)} {RO : List Nat} {K : zK}
theorem z_r_bin (hg : z_Good p l e R s m args below meth c Q OB D DA cl TY PHI sz raw pu T0 H0 env0 nL good) {f : zR → zR → zR} {op : Int32 → Int32 → Int32} (hf : ∀ a b x y, z_in a x → z_in b y → z_in (f a b) (op x y)) {k1 : Nat}
    (row : ∀ {H : Heap} {locs : List Loc} {cells slots : Nat} {ls : Array Slot} {rest : List Value} {x y : Int32}, W p l e R s m args below meth c H locs cells slots Q (F0 m k1 ls (.int (op x y) :: rest)) → W p l e R s m args below meth c H locs cells slots Q (F0 m pc ls (.int y :: .int x :: rest))) (h : z_bin f st = some st') (k : good k1 st') : good pc st := by
  refine (hg _ _).mpr fun T H locs env ls stk hs => ?_
  obtain ⟨x, y, kk, rfl, h1, h2⟩ := z_bin_ok hf h hs
  have := (hg _ _).mp k T H locs _ ls _ h2
  rw [h1] at this
  exact row this
theorem z_r_bin0 (hg : z_Good p l e R s m args below meth c Q OB D DA cl TY PHI sz raw pu T0 H0 env0 nL good) {f : zR → zR → zR} {op : Int32 → Int32 → Int32} (hf : ∀ a b x y, z_in a x → z_in b y → z_in (f a b) (op x y)) {k1 : Nat}
    (row : ∀ {H : Heap} {locs : List Loc} {cells slots : Nat} {ls : Array Slot} {rest : List Value} {x y : Int32}, ¬ y = 0 → W p l e R s m args below meth c H locs cells slots Q (F0 m k1 ls (.int (op x y) :: rest)) → W p l e R s m args below meth c H locs cells slots Q (F0 m pc ls (.int y :: .int x :: rest))) (h : z_bin0 f st = some st') (k : good k1 st') : good pc st := by
  refine (hg _ _).mpr fun T H locs env ls stk hs => ?_
  obtain ⟨x, y, kk, rfl, h0, h1, h2⟩ := z_bin0_ok hf h hs
  have := (hg _ _).mp k T H locs _ ls _ h2
  rw [h1] at this
  exact row h0 this
theorem z_r_un (hg : z_Good p l e R s m args below meth c Q OB D DA cl TY PHI sz raw pu T0 H0 env0 nL good) {f : zR → zR} {op : Int32 → Int32} (hf : ∀ a x, z_in a x → z_in (f a) (op x)) {k1 : Nat}
    (row : ∀ {H : Heap} {locs : List Loc} {cells slots : Nat} {ls : Array Slot} {rest : List Value} {x : Int32}, W p l e R s m args below meth c H locs cells slots Q (F0 m k1 ls (.int (op x) :: rest)) → W p l e R s m args below meth c H locs cells slots Q (F0 m pc ls (.int x :: rest))) (h : z_un f st = some st') (k : good k1 st') : good pc st := by
  refine (hg _ _).mpr fun T H locs env ls stk hs => ?_
  obtain ⟨x, kk, rfl, h1, h2⟩ := z_un_ok hf h hs
  have := (hg _ _).mp k T H locs _ ls _ h2
  rw [h1] at this
  exact row this
theorem z_r_obi (hg : z_Good p l e R s m args below meth c Q OB D DA cl TY PHI sz raw pu T0 H0 env0 nL good) (hx : p.tables.exec = Jvm.exec) (hb : c.code = cc) (hml : c.maxLocals = nL) (hts : ∀ w ∈ Ts, w.before args s = true) (hown : s.vm.findClass own = some m.cls) (hKS : z_KS Ts TBL cl FT own MT K) {i : Nat} (hd : decode cc pc = .ok (.invokespecial i, 3)) (h : z_obi R K i st = some st') (k : good (pc + 3) st') : good pc st := by
  refine (hg _ _).mpr fun T H locs env ls stk hs => ?_
  unfold z_obi at h
  split at h
  · rename_i d S q hS hq
    have hm := List.mem_of_find?_eq_some hq
    have hp := List.find?_some hq
    rw [Bool.and_eq_true] at hp
    have hi : q.1 = i := z_beq hp.1
    obtain ⟨w1, w2, w3⟩ := (hKS.2.2.1 q hm).1 (z_beq hp.2)
    rw [hi] at w1
    cases hc : (z_isr st d && Nat.ble 1 R.frames) with
    | false => rw [hc] at h; cases h
    | true =>
      rw [hc] at h
      rw [Bool.and_eq_true] at hc
      have h : (match z_csum st S with
        | some n => cond (Nat.ble (n + 12) R.locals) (some (z_stS st S)) none
        | none => none) = some st' := h
      split at h
      · rename_i n hn
        obtain ⟨h1, rfl⟩ := z_cond h
        obtain ⟨v, kk, rfl, e1, hk⟩ := z_stk_cons hS hs.2.2.2.1
        obtain ⟨a, e2⟩ := z_isr_ok hc.1 hs
        rw [e1] at e2
        cases e2
        have hcat := z_csum_ok hn hs hk
        have hle := Nat.le_of_ble_eq_true h1
        have hlsz : ls.size = nL := by obtain ⟨lv, z1, _⟩ := hs.2.2.1; exact z1.1
        refine W.objInit hx hb hown (hts _ w1) (hts _ w2) (hts _ w3) rfl (by show ls.size = c.maxLocals; rw [hlsz, hml]) rfl hd (Nat.le_of_ble_eq_true hc.2) (by show 2 * 0 + _ + 12 ≤ _; rw [hcat]; omega) ?_
        exact (hg _ _).mp k T H locs env ls _ (z_sat_stS hs hk)
      · cases h
  · cases h
set_option maxHeartbeats 4000000 in
theorem z_step_ok (hg : z_Good p l e R s m args below meth c Q OB D DA cl TY PHI sz raw pu T0 H0 env0 nL good) (hx : p.tables.exec = Jvm.exec) (hb : c.code = cc) (hml : c.maxLocals = nL) (hD : z_Dy s m args Ts own D cl DA (z_tys DA)) (hsz : sz ≤ H0.size) (hXp : z_KXp sz (KXf OB sz)) (hX : KXf OB sz s H0) (hKS : z_KS Ts TBL cl FT own MT K) (hin : ∀ j, k_IN K = some j → meth.name = "<init>")
    (hok : ∀ g ∈ (k_CA K).filterMap (fun a => SG[a.2]?), ∀ mm, MT[g.1]? = some mm → z_OK TBL cl FT TY PHI KXf mm.1 mm.2.1 mm.2.2.1 mm.2.2.2.1 g.2) {ins : Instr} {len : Nat} (hd : decode cc pc = .ok (ins, len)) {L : List (Nat × zS)} (h : z_step TY PHI cl FT MT SG RO R pu nL K pc ins len st = some L) (hall : ∀ q ∈ L, good q.1 q.2) : good pc st := by
  have hpu : ∀ {o : Option (List (Nat × zS))}, cond pu none o = some L → pu = false ∧ o = some L := by
    intro o ho
    cases hq : pu with
    | true => rw [hq] at ho; cases ho
    | false => rw [hq] at ho; exact ⟨rfl, ho⟩
  have hini : ∀ j r, k_IN K = some j → cl[j]? = some r → meth.name = "<init>" ∧ r.1 = own := fun j r h1 h2 => ⟨hin j h1, hKS.2.2.2.2.2.2 j r h1 h2⟩
  unfold z_step at h
  split at h
  · obtain ⟨rfl, s1, h1, k⟩ := z_one_ok h hall; exact z_r_iconst hg hx hb hd h1 k
  · obtain ⟨rfl, s1, h1, k⟩ := z_one_ok h hall; exact z_r_bip hg hx hb hd h1 k
  · obtain ⟨rfl, s1, h1, k⟩ := z_one_ok h hall; exact z_r_sip hg hx hb hd h1 k
  · obtain ⟨rfl, s1, h1, k⟩ := z_one_ok h hall
    split at h1
    · rename_i q hq
      have hq1 := List.find?_some hq
      have hi := z_beq hq1
      have hc := hD.1 _ (hKS.2.2.2.1 q (List.mem_of_find?_eq_some hq))
      rw [hi] at hc
      exact z_r_ldc hg hx hb hD.2.1 hc hd h1 k
    · cases h1
  · obtain ⟨rfl, s1, h1, k⟩ := z_one_ok h hall
    split at h1
    · rename_i q hq
      have hq1 := List.find?_some hq
      have hi := z_beq hq1
      have hc := hD.1 _ (hKS.2.2.2.1 q (List.mem_of_find?_eq_some hq))
      rw [hi] at hc
      exact z_r_ldcw hg hx hb hD.2.1 hc hd h1 k
    · cases h1
  · obtain ⟨rfl, s1, h1, k⟩ := z_one_ok h hall; exact z_r_iload hg hx hb hd h1 k
  · obtain ⟨rfl, s1, h1, k⟩ := z_one_ok h hall; exact z_r_iload_n hg hx hb hd h1 k
  · obtain ⟨rfl, s1, h1, k⟩ := z_one_ok h hall; exact z_r_aload hg hx hb hd h1 k
  · obtain ⟨rfl, s1, h1, k⟩ := z_one_ok h hall; exact z_r_aload_n hg hx hb hd h1 k
  · obtain ⟨rfl, s1, h1, k⟩ := z_one_ok h hall; exact z_r_istore hg hx hb hd h1 k
  · obtain ⟨rfl, s1, h1, k⟩ := z_one_ok h hall; exact z_r_istore_n hg hx hb hd h1 k
  · obtain ⟨rfl, s1, h1, k⟩ := z_one_ok h hall; exact z_r_astore hg hx hb hd h1 k
  · obtain ⟨rfl, s1, h1, k⟩ := z_one_ok h hall; exact z_r_astore_n hg hx hb hd h1 k
  · obtain ⟨rfl, s1, h1, k⟩ := z_one_ok h hall; exact z_r_iinc hg hx hb hd h1 k
  · obtain ⟨rfl, s1, h1, k⟩ := z_one_ok h hall; exact z_r_dup hg hx hb hd h1 k
  · obtain ⟨rfl, s1, h1, k⟩ := z_one_ok h hall; exact z_r_dupx1 hg hx hb hd h1 k
  · obtain ⟨rfl, s1, h1, k⟩ := z_one_ok h hall; exact z_r_dup2 hg hx hb hd h1 k
  · obtain ⟨rfl, s1, h1, k⟩ := z_one_ok h hall; exact z_r_pop hg hx hb hd h1 k
  · obtain ⟨rfl, s1, h1, k⟩ := z_one_ok h hall
    refine (hg _ _).mpr fun T H locs env ls stk hs => ?_
    obtain ⟨x, y, kk, rfl, g1, g2⟩ := z_iadd_ok h1 hs
    have := (hg _ _).mp k T H locs _ ls _ g2
    rw [g1] at this
    exact lv_iadd hx hb hd this
  · obtain ⟨rfl, s1, h1, k⟩ := z_one_ok h hall
    refine (hg _ _).mpr fun T H locs env ls stk hs => ?_
    obtain ⟨x, y, kk, rfl, g1, g2⟩ := z_isub_ok h1 hs
    have := (hg _ _).mp k T H locs _ ls _ g2
    rw [g1] at this
    exact lv_isub hx hb hd this
  · obtain ⟨rfl, s1, h1, k⟩ := z_one_ok h hall; exact z_r_bin hg (fun a b x y => z_mul_ok) (fun w => lv_imul hx hb hd w) h1 k
  · obtain ⟨rfl, s1, h1, k⟩ := z_one_ok h hall; exact z_r_bin0 hg (fun a b x y => z_div_ok) (fun h0 w => lv_idiv hx hb hd h0 w) h1 k
  · obtain ⟨rfl, s1, h1, k⟩ := z_one_ok h hall; exact z_r_bin0 hg (op := fun x y => x - x / y * y) (fun a b x y => z_rem_ok) (fun h0 w => lv_irem hx hb hd h0 w) h1 k
  · obtain ⟨rfl, s1, h1, k⟩ := z_one_ok h hall; exact z_r_bin hg (fun a b x y => z_and_ok) (fun w => lv_iand hx hb hd w) h1 k
  · obtain ⟨rfl, s1, h1, k⟩ := z_one_ok h hall; exact z_r_bin hg (fun a b x y => z_or_ok) (fun w => lv_ior hx hb hd w) h1 k
  · obtain ⟨rfl, s1, h1, k⟩ := z_one_ok h hall; exact z_r_bin hg (fun a b x y => z_xor_ok) (fun w => lv_ixor hx hb hd w) h1 k
  · obtain ⟨rfl, s1, h1, k⟩ := z_one_ok h hall; exact z_r_bin hg (op := fun x y => x <<< (y &&& 31)) (fun a b x y => z_shl_ok) (fun w => lv_ishl hx hb hd w) h1 k
  · obtain ⟨rfl, s1, h1, k⟩ := z_one_ok h hall; exact z_r_bin hg (op := fun x y => x >>> (y &&& 31)) (fun a b x y => z_shr_ok) (fun w => lv_ishr hx hb hd w) h1 k
  · obtain ⟨rfl, s1, h1, k⟩ := z_one_ok h hall; exact z_r_bin hg (op := fun x y => (x.toUInt32 >>> (y.toUInt32 &&& Int32.toUInt32 31)).toInt32) (fun a b x y => z_ushr_ok) (fun w => lv_iushr hx hb hd rfl w) h1 k
  · obtain ⟨rfl, s1, h1, k⟩ := z_one_ok h hall; exact z_r_un hg (op := fun x => -x) (fun a x => z_neg_ok) (fun w => lv_ineg hx hb hd w) h1 k
  · obtain ⟨rfl, s1, h1, k⟩ := z_one_ok h hall; exact z_r_un hg (op := fun x => x.toInt8.toInt32) (fun a x => z_i2b_ok) (fun w => lv_i2b hx hb hd rfl w) h1 k
  · obtain ⟨rfl, s1, h1, k⟩ := z_one_ok h hall; exact z_r_un hg (op := fun x => (x.toUInt32 % 65536).toInt32) (fun a x => z_i2c_ok) (fun w => lv_i2c hx hb hd rfl w) h1 k
  · cases hl : Nat.beq len 3 with
    | false => rw [hl] at h; cases h
    | true => rw [hl] at h; rw [z_beq hl] at hd; exact z_r_icmp hg hx hb hd h hall
  · cases hl : Nat.beq len 3 with
    | false => rw [hl] at h; cases h
    | true => rw [hl] at h; rw [z_beq hl] at hd; exact z_r_icnd hg hx hb hd h hall
  · cases hl : Nat.beq len 3 with
    | false => rw [hl] at h; cases h
    | true =>
      rw [hl] at h; rw [z_beq hl] at hd
      rename_i off
      cases ht : z_to pc off with
      | none => rw [ht] at h; cases h
      | some t => rw [ht] at h; cases h; exact z_r_goto hg hx hb hd ht (hall _ (List.mem_singleton.mpr rfl))
  · exact z_r_tsw hg hx hb hd h hall
  · exact z_r_lsw hg hx hb hd h hall
  · obtain ⟨rfl, s1, h1, k⟩ := z_one_ok h hall; exact z_r_getf hg hx hb hKS.1 hD hd h1 k
  · obtain ⟨hp0, h⟩ := hpu h
    obtain ⟨rfl, s1, h1, k⟩ := z_one_ok h hall; exact z_r_putf hp0 hg hx hb hKS.1 hD hini hd h1 k
  · obtain ⟨rfl, s1, h1, k⟩ := z_one_ok h hall; exact z_r_iald hg hx hb hD hd h1 k
  · obtain ⟨rfl, s1, h1, k⟩ := z_one_ok h hall; exact z_r_bald hg hx hb hD hd h1 k
  · obtain ⟨rfl, s1, h1, k⟩ := z_one_ok h hall; exact z_r_lald hg hx hb hD hd h1 k
  · obtain ⟨hp0, h⟩ := hpu h
    obtain ⟨rfl, s1, h1, k⟩ := z_one_ok h hall; exact z_r_iast hp0 hg hx hb hD hd h1 k
  · obtain ⟨hp0, h⟩ := hpu h
    obtain ⟨rfl, s1, h1, k⟩ := z_one_ok h hall; exact z_r_bast hp0 hg hx hb hD hd h1 k
  · obtain ⟨hp0, h⟩ := hpu h
    obtain ⟨rfl, s1, h1, k⟩ := z_one_ok h hall; exact z_r_last hp0 hg hx hb hD hd h1 k
  · obtain ⟨rfl, s1, h1, k⟩ := z_one_ok h hall; exact z_r_alen hg hx hb hD hd h1 k
  · obtain ⟨hp0, h⟩ := hpu h
    obtain ⟨rfl, s1, h1, k⟩ := z_one_ok h hall
    split at h1
    · rename_i ek q he hq
      exact z_r_nwa hp0 hg hx hb hD hKS.2.2.2.2.1 hsz he hd h1 k
    · cases h1
  · obtain ⟨hp0, h⟩ := hpu h
    obtain ⟨rfl, s1, h1, k⟩ := z_one_ok h hall; exact z_r_new hp0 hg hx hb hKS.1 hD hKS.2.1 hsz hd h1 k
  · obtain ⟨rfl, s1, h1, k⟩ := z_one_ok h hall; exact z_r_lconst hg hx hb hd h1 k
  · obtain ⟨rfl, s1, h1, k⟩ := z_one_ok h hall; exact z_r_lshl hg hx hb hd h1 k
  · obtain ⟨rfl, s1, h1, k⟩ := z_one_ok h hall; exact z_r_lor hg hx hb hd h1 k
  · obtain ⟨rfl, s1, h1, k⟩ := z_one_ok h hall; exact z_r_lcmp hg hx hb hd h1 k
  · obtain ⟨rfl, L', h1, k⟩ := z_all_ok h hall
    exact z_calls_ok hg hx hb hml hD hsz hXp hX hKS hok (fun k hk => by rw [z_beq hk]; exact ⟨by omega, rfl⟩) hd h1 k
  · rename_i i
    cases hq : (k_LK K).any (fun q => Nat.beq q.1 i && Nat.beq q.2.1 8) with
    | true =>
      rw [hq] at h
      obtain ⟨hp0, h⟩ := hpu h
      obtain ⟨rfl, s1, h1, k⟩ := z_one_ok h hall
      obtain ⟨q, hm, hp⟩ := List.any_eq_true.mp hq
      rw [Bool.and_eq_true] at hp
      have hi : q.1 = i := z_beq hp.1
      obtain ⟨w1, w2, w3, w4⟩ := (hKS.2.2.1 q hm).2.1 (z_beq hp.2)
      rw [hi] at w1
      exact z_r_acp hp0 hg hx hb hml hD w1 w2 w3 w4 hd h1 k
    | false =>
      rw [hq] at h
      obtain ⟨rfl, L', h1, k⟩ := z_all_ok h hall
      refine z_calls_ok hg hx hb hml hD hsz hXp hX hKS hok (fun k hk => ?_) hd h1 k
      rw [Bool.or_eq_true] at hk
      rcases hk with hk | hk <;> rw [z_beq hk] <;> exact ⟨by omega, rfl⟩
  · split at h
    · rename_i s1 h1
      obtain ⟨rfl, s2, h2, k⟩ := z_one_ok h hall
      cases h2
      exact z_r_obi hg hx hb hml hD.1 hD.2.1 hKS hd h1 k
    · obtain ⟨rfl, L', h1, k⟩ := z_all_ok h hall
      refine z_calls_ok hg hx hb hml hD hsz hXp hX hKS hok (fun k hk => ?_) hd h1 k
      rw [Bool.or_eq_true] at hk
      rcases hk with hk | hk <;> rw [z_beq hk] <;> exact ⟨by omega, rfl⟩
  · cases h
end ZSTEP2
end
section
/-! Acts ahead of a place; cut points, with ranks that fall. -/
def z_spl (st : zS) (d : Nat) (t : Int) : Option (List zS) := match z_get (z_V st) d with
  | some (.inl r) => some (cond (z_ile r.1 t) [z_mor st (z_S st) [(d, .inl (r.1, z_min r.2 t))] []] [] ++ cond (z_ile (t + 1) r.2) [z_mor st (z_S st) [(d, .inl (z_max r.1 (t + 1), r.2))] []] [])
  | _ => none
/-- a value is bound by another one's bound -/
def z_tig (st : zS) (d e : Nat) : Option (List zS) := match z_get (z_V st) d, z_get (z_V st) e, z_lbs (z_R st) 6 e d with
  | some (.inl r), some (.inl q), some k => some [z_mor st (z_S st) [(d, .inl (r.1, z_min r.2 (q.2 - k)))] []]
  | _, _, _ => none
def z_act (TY : List zTy) (PHI : List (List Nat)) (cl : List vw_C) (PHS : List Nat) (pu : Bool) (q : Nat × Nat × Int) (st : zS) : Option (List zS) := match q.1 with
  | 0 => cond pu none (match TY[q.2.1]? with
    | some (.inl o) => (match cl[o.1]? with
      | some r => cond (Nat.beq o.2.length r.2.2) ((z_pub TY st 0 q.2.1).map (fun s => [s])) none
      | none => none)
    | _ => none)
  | 1 => cond (pu || !(PHS.any (fun x => Nat.beq x q.2.1))) none (cond (Nat.beq (z_ph st) q.2.1) (some [st]) ((z_rty PHI st q.2.1).map (fun s => [s])))
  | 2 => (match z_loc (z_L st) q.2.1 with
    | some d => z_spl st d q.2.2
    | none => none)
  | 4 => (match z_loc (z_L st) q.2.1, z_loc (z_L st) q.2.2.toNat with
    | some d, some e => z_tig st d e
    | _, _ => none)
  | _ => (match (z_S st)[q.2.1]? with
    | some d => z_spl st d q.2.2
    | none => none)
def z_fmp {α : Type} (f : zS → Option (List α)) : List zS → Option (List α)
  | [] => some []
  | s :: L => match f s, z_fmp f L with
    | some a, some b => some (a ++ b)
    | _, _ => none
def z_acts (TY : List zTy) (PHI : List (List Nat)) (cl : List vw_C) (PHS : List Nat) (pu : Bool) : List (Nat × Nat × Nat × Int) → Nat → zS → Option (List zS)
  | [], _, st => some [st]
  | q :: r, pc, st => cond (Nat.beq q.1 pc) (match z_act TY PHI cl PHS pu q.2 st with
    | some L => z_fmp (z_acts TY PHI cl PHS pu r pc) L
    | none => none) (z_acts TY PHI cl PHS pu r pc st)
/-- a step with its acts; finV, finI: the ends -/
def z_stp (TY : List zTy) (PHI : List (List Nat)) (cl : List vw_C) (FT : Nat → Nat → FieldType) (MT : List zM) (SG : List (Nat × zSig)) (RO PHS : List Nat) (R : Room) (pu : Bool) (nL : Nat) (K : zK) (cc : ByteArray) (finV finI : zS → Bool) (pc : Nat) (st : zS) : Option (List (Nat × zS)) :=
  match z_acts TY PHI cl PHS pu (k_AC K) pc st with
  | some L => (match decode cc pc with
    | .ok (.return_, len) => cond (Nat.beq len 1 && L.all finV) (some []) none
    | .ok (.ireturn, len) => cond (Nat.beq len 1 && L.all finI) (some []) none
    | .ok (ins, len) => z_fmp (z_step TY PHI cl FT MT SG RO R pu nL K pc ins len) L
    | .error _ => none)
  | none => none
def z_run (stp : Nat → zS → Option (List (Nat × zS))) (cut : Nat → zS → Bool) : Nat → Nat → zS → Bool
  | 0, _, _ => false
  | f + 1, pc, st => match stp pc st with
    | some L => L.all (fun q => cut q.1 q.2 || z_run stp cut f q.1 q.2)
    | none => false
abbrev zLo : Type := Nat × Nat × Nat × Nat
abbrev zLin : Type := Int × List (Nat × Int)
abbrev zCu : Type := Nat × zS × List zLo × zLin
def z_sg1 (cur : zS) (acc : List Nat) (q : zLo) : Option Nat := match q.1 with
  | 0 => some q.2.1
  | 1 => z_loc (z_L cur) q.2.1
  | 2 => (z_S cur)[q.2.1]?
  | 3 => (match acc[q.2.1]? with
    | some a => z_ffind cur a q.2.2.1 q.2.2.2
    | none => none)
  | 4 => (match acc[q.2.1]?, acc[q.2.2.1]? with
    | some a, some j => z_efind cur a j
    | _, _ => none)
  | _ => ((z_V cur).find? (fun e => match e.2 with
    | .inl r => z_ile (q.2.1 : Int) r.1 && z_ile r.2 (q.2.1 : Int)
    | _ => false)).map (fun e => e.1)
def z_sgm (cur : zS) : List zLo → List Nat → Option (List Nat)
  | [], acc => some acc
  | q :: r, acc => match z_sg1 cur acc q with
    | some i => z_sgm cur r (acc ++ [i])
    | none => none
def z_seq (sg : List Nat) : List Nat → List Nat → Bool
  | [], [] => true
  | t :: L, i :: M => (match sg[t]? with
    | some j => Nat.beq j i
    | none => false) && z_seq sg L M
  | _, _ => false
/-- a bound of a difference: by steps, or by ranges -/
def z_kr (st : zS) (b a : Nat) (k : Int) : Bool := z_kx (z_R st) b a k || (match z_get (z_V st) b, z_get (z_V st) a with
  | some (.inl r), some (.inl q) => z_ile (q.2 + k) r.1
  | _, _ => false)
def z_sub2 (cur tgt : zS) (sg : List Nat) : Bool :=
  Nat.beq sg.length (z_n tgt) && sg.all (fun i => Nat.blt i (z_n cur)) && (z_L tgt).all (fun q => match z_loc (z_L cur) q.1, sg[q.2]? with
    | some d, some i => Nat.beq d i
    | _, _ => false) && z_seq sg (z_S tgt) (z_S cur) && (z_V tgt).all (fun q => match sg[q.1]? with
    | some i => (match z_get (z_V cur) i with
      | some c => z_le c q.2
      | none => false)
    | none => false) && (z_F tgt).all (fun q => match sg[q.1]?, sg[q.2.2.2]?, cur with
    | some a, some v, cur => (match z_ffind cur a q.2.1 q.2.2.1 with
      | some w => Nat.beq w v && (z_F cur).any (fun f => Nat.beq f.1 a && Nat.beq f.2.1 q.2.1 && Nat.beq f.2.2.1 q.2.2.1 && Nat.beq f.2.2.2 v)
      | none => false)
    | _, _, _ => false) && (z_E tgt).all (fun q => match sg[q.1]?, sg[q.2.1]?, sg[q.2.2]? with
    | some a, some j, some v => z_isi cur j && (match z_efind cur a j with
      | some w => Nat.beq w v
      | none => false)
    | _, _, _ => false) && (z_R tgt).all (fun q => match sg[q.1]?, sg[q.2.1]? with
    | some b, some a => z_isi cur b && z_isi cur a && z_kr cur b a q.2.2
    | _, _ => false) && (z_X tgt).isEmpty && Nat.ble (z_C cur).1 (z_C tgt).1 && Nat.ble (z_C cur).2 (z_C tgt).2 && Nat.beq (z_ph cur) (z_ph tgt)
def z_pick (st : zS) (x : Nat) (a : Int) : List (Nat × Int) → Option (Int × List (Nat × Int))
  | [] => none
  | q :: r => match (cond (z_ile q.2 (-a) && z_ile (-a) q.2 && z_isi st q.1) (cond (z_ile 0 a) (z_lbs (z_R st) 2 x q.1) (z_lbs (z_R st) 2 q.1 x)) none) with
    | some k => some (cond (z_ile 0 a) (a * k) (-a * k), r)
    | none => (match z_pick st x a r with
      | some w => some (w.1, q :: w.2)
      | none => none)
def z_lw (st : zS) : Nat → List (Nat × Int) → Option Int
  | _, [] => some 0
  | 0, _ :: _ => none
  | f + 1, q :: r => match z_get (z_V st) q.1 with
    | some (.inl v) => (match z_pick st q.1 q.2 r with
      | some w => (match z_lw st f w.2 with
        | some b => some (b + w.1)
        | none => none)
      | none => (match z_lw st f r with
        | some b => some (b + cond (z_ile 0 q.2) (q.2 * v.1) (q.2 * v.2))
        | none => none))
    | _ => none
def z_mapt (sg : List Nat) : List (Nat × Int) → Option (List (Nat × Int))
  | [] => some []
  | q :: r => match sg[q.1]?, z_mapt sg r with
    | some i, some L => some ((i, q.2) :: L)
    | _, _ => none
def z_rnk (cur : zS) (sg : List Nat) (src : Option zLin) (tgt : zLin) : Bool := match z_mapt sg tgt.2 with
  | some t => (match z_lw cur 12 t with
      | some b => z_ile 0 (tgt.1 + b)
      | none => false) && (match src with
      | none => true
      | some s => (match z_lw cur 12 (s.2 ++ t.map (fun q => (q.1, -q.2))) with
        | some b => z_ile 1 (s.1 - tgt.1 + b)
        | none => false))
  | none => false
def z_cut (CU : List zCu) (ng : Nat) (src : Option zLin) (pc : Nat) (cur : zS) : Bool := CU.any (fun k => Nat.beq k.1 pc && (match z_sgm cur k.2.2.1 [] with
  | some sg => z_sub2 cur k.2.1 sg && (List.range ng).all (fun i => match sg[i]? with
      | some j => Nat.beq j i
      | none => false) && z_rnk cur sg src k.2.2.2
  | none => false))
/-- the value of a linear form -/
def z_iv (env : List Value) (x : Nat) : Int := match env[x]? with
  | some (.int v) => v.toInt
  | _ => 0
def z_ev (env : List Value) : List (Nat × Int) → Int
  | [] => 0
  | q :: r => q.2 * z_iv env q.1 + z_ev env r
section ZCUTS
variable {OB : Nat → Nat} {D : va_G} {DA : Nat → ClassId} {cl : List vw_C} {FT : Nat → Nat → FieldType} {TY : List zTy} {PHI : List (List Nat)} {sz : Nat} {raw : Option Nat} {pu : Bool} {T0 : zTp} {H0 : Heap} {env0 : List Value} {nL : Nat} {st st' : zS} {T : zTp} {H : Heap} {locs : List Loc} {env : List Value} {ls : Array Slot} {stk : List Value} {good : Nat → zS → Prop}
theorem z_iv_int {x : Nat} {v : Int32} (h : env[x]? = some (.int v)) : z_iv env x = v.toInt := by unfold z_iv; rw [h]
theorem z_ile_not {a b : Int} (h : z_ile a b = false) : b < a := Int.not_le.mp (of_decide_eq_false h)
theorem z_pick_ok (hs : z_sat OB D DA cl TY PHI sz raw pu T0 H0 env0 nL st T H locs env ls stk) {x : Nat} {vx : Int32} (hx : env[x]? = some (.int vx)) {a : Int} : ∀ {L : List (Nat × Int)} {w : Int × List (Nat × Int)}, z_pick st x a L = some w → w.1 + z_ev env w.2 ≤ a * z_iv env x + z_ev env L
  | [], w, h => by cases h
  | q :: r, w, h => by
    unfold z_pick at h
    have hr := hs.2.2.2.2.2.2.2.1
    split at h
    · rename_i k hk
      cases h
      cases hc : (z_ile q.2 (-a) && z_ile (-a) q.2 && z_isi st q.1) with
      | false => rw [hc] at hk; cases hk
      | true =>
        rw [hc] at hk
        simp only [Bool.and_eq_true] at hc
        obtain ⟨vy, hy⟩ := z_isi_ok hc.2 hs
        have l1 := z_ile_ok hc.1.1
        have l2 := z_ile_ok hc.1.2
        have hq : q.2 = -a := by omega
        show cond (z_ile 0 a) (a * k) (-a * k) + z_ev env r ≤ a * z_iv env x + (q.2 * z_iv env q.1 + z_ev env r)
        rw [z_iv_int hx, z_iv_int hy, hq]
        cases ha : z_ile 0 a with
        | true =>
          rw [ha] at hk
          obtain ⟨v2, e1, e2⟩ := z_lbs_ok hr hk hx
          rw [hy] at e1
          cases e1
          have := Int.mul_le_mul_of_nonneg_left (show k ≤ vx.toInt - vy.toInt by omega) (z_ile_ok ha)
          rw [Int.mul_sub] at this
          show a * k + z_ev env r ≤ _
          rw [Int.neg_mul]
          omega
        | false =>
          rw [ha] at hk
          obtain ⟨v2, e1, e2⟩ := z_lbs_ok hr hk hy
          rw [hx] at e1
          cases e1
          have han := z_ile_not ha
          have := Int.mul_le_mul_of_nonneg_left (show k ≤ vy.toInt - vx.toInt by omega) (show 0 ≤ -a by omega)
          rw [Int.mul_sub] at this
          show -a * k + z_ev env r ≤ _
          simp only [Int.neg_mul] at this ⊢
          omega
    · split at h
      · rename_i w2 hw2
        cases h
        have ih := z_pick_ok hs hx hw2
        show w2.1 + (q.2 * z_iv env q.1 + z_ev env w2.2) ≤ a * z_iv env x + (q.2 * z_iv env q.1 + z_ev env r)
        omega
      · cases h
theorem z_lw_ok (hs : z_sat OB D DA cl TY PHI sz raw pu T0 H0 env0 nL st T H locs env ls stk) : ∀ {f : Nat} {L : List (Nat × Int)} {b : Int}, z_lw st f L = some b → b ≤ z_ev env L
  | f, [], b, h => by
    unfold z_lw at h
    cases h
    exact Int.le_refl _
  | 0, q :: r, b, h => by cases h
  | f + 1, q :: r, b, h => by
    unfold z_lw at h
    split at h
    · rename_i v hv
      obtain ⟨w, e1, x, rfl, hx⟩ := z_get_ok hs.2.2.2.2.1 hv
      split at h
      · rename_i w2 hw2
        have hp := z_pick_ok hs e1 hw2
        split at h
        · rename_i b2 hb2
          cases h
          have ih := z_lw_ok hs hb2
          show b2 + w2.1 ≤ q.2 * z_iv env q.1 + z_ev env r
          omega
        · cases h
      · split at h
        · rename_i b2 hb2
          cases h
          have ih := z_lw_ok hs hb2
          show b2 + cond (z_ile 0 q.2) (q.2 * v.1) (q.2 * v.2) ≤ q.2 * z_iv env q.1 + z_ev env r
          rw [z_iv_int e1]
          cases ha : z_ile 0 q.2 with
          | true =>
            have := Int.mul_le_mul_of_nonneg_left hx.1 (z_ile_ok ha)
            show b2 + q.2 * v.1 ≤ _
            omega
          | false =>
            have := Int.mul_le_mul_of_nonpos_left (show q.2 ≤ 0 by have := z_ile_not ha; omega) hx.2
            show b2 + q.2 * v.2 ≤ _
            omega
        · cases h
    · cases h
theorem z_ev_app {A B : List (Nat × Int)} : z_ev env (A ++ B) = z_ev env A + z_ev env B := by
  induction A with
  | nil => simp [z_ev]
  | cons q A ih =>
    show q.2 * z_iv env q.1 + z_ev env (A ++ B) = q.2 * z_iv env q.1 + z_ev env A + z_ev env B
    rw [ih]; omega
theorem z_ev_neg {A : List (Nat × Int)} : z_ev env (A.map (fun q => (q.1, -q.2))) = - z_ev env A := by
  induction A with
  | nil => simp [z_ev]
  | cons q A ih =>
    show -q.2 * z_iv env q.1 + z_ev env (A.map (fun q => (q.1, -q.2))) = -(q.2 * z_iv env q.1 + z_ev env A)
    rw [ih, Int.neg_mul]; omega
theorem z_ev_map {sg : List Nat} {env' : List Value} (he : ∀ (t i : Nat), sg[t]? = some i → env'[t]? = env[i]?) : ∀ {A B : List (Nat × Int)}, z_mapt sg A = some B → z_ev env' A = z_ev env B
  | [], B, h => by cases h; rfl
  | q :: A, B, h => by
    unfold z_mapt at h
    split at h
    · rename_i i L hi hL
      cases h
      have ih := z_ev_map he hL
      show q.2 * z_iv env' q.1 + z_ev env' A = q.2 * z_iv env i + z_ev env L
      rw [ih]
      unfold z_iv
      rw [he _ _ hi]
    · cases h
theorem z_ev_pre {w : List Value} : ∀ {A : List (Nat × Int)}, (A.all (fun q => Nat.blt q.1 env.length)) = true → z_ev (env ++ w) A = z_ev env A
  | [], _ => rfl
  | q :: A, h => by
    rw [List.all_cons, Bool.and_eq_true] at h
    have ih := z_ev_pre (w := w) h.2
    show q.2 * z_iv (env ++ w) q.1 + z_ev (env ++ w) A = q.2 * z_iv env q.1 + z_ev env A
    rw [ih]
    unfold z_iv
    rw [List.getElem?_append_left (z_blt h.1)]
theorem z_seq_ok {sg : List Nat} {env' : List Value} (he : ∀ (t i : Nat), sg[t]? = some i → env'[t]? = env[i]?) : ∀ {A B : List Nat} {k : List Value}, z_seq sg A B = true → z_stk env B k → z_stk env' A k
  | [], [], k, _, h => h
  | [], _ :: _, k, h, _ => by cases h
  | _ :: _, [], k, h, _ => by cases h
  | t :: A, i :: B, k, h, ⟨v, k', e1, e2, e3⟩ => by
    unfold z_seq at h
    rw [Bool.and_eq_true] at h
    obtain ⟨h1, h2⟩ := h
    split at h1
    · rename_i j hj
      exact ⟨v, k', e1, by rw [he _ _ hj, z_beq h1]; exact e2, z_seq_ok he h2 e3⟩
    · cases h1
/-- the state of a cut point holds, with its own names -/
theorem z_kr_int {x y : Nat} {n : Int} (h : (z_isi st x && z_isi st y && z_kr st x y n) = true) (hs : z_sat OB D DA cl TY PHI sz raw pu T0 H0 env0 nL st T H locs env ls stk) : ∃ vx vy : Int32, env[x]? = some (.int vx) ∧ env[y]? = some (.int vy) ∧ vy.toInt + n ≤ vx.toInt := by
  rw [Bool.and_eq_true] at h
  obtain ⟨h1, h2⟩ := h
  unfold z_kr at h2
  rw [Bool.or_eq_true] at h2
  rcases h2 with h2 | h2
  · exact z_kn_int (by rw [Bool.and_eq_true]; exact ⟨h1, h2⟩) hs
  · split at h2
    · rename_i r q hr hq
      obtain ⟨v, e1, x1, rfl, hx⟩ := z_get_ok hs.2.2.2.2.1 hr
      obtain ⟨w, e2, y1, rfl, hy⟩ := z_get_ok hs.2.2.2.2.1 hq
      refine ⟨x1, y1, e1, e2, ?_⟩
      have := z_ile_ok h2
      have a1 := hx.1
      have a2 := hy.2
      omega
    · cases h2
theorem z_sub2_ok {tgt : zS} {sg : List Nat} (h : z_sub2 st tgt sg = true) (hs : z_sat OB D DA cl TY PHI sz raw pu T0 H0 env0 nL st T H locs env ls stk) :
    (z_C st).1 ≤ (z_C tgt).1 ∧ (z_C st).2 ≤ (z_C tgt).2 ∧ ∃ env' : List Value, (∀ (t i : Nat), sg[t]? = some i → env'[t]? = env[i]?) ∧ z_sat OB D DA cl TY PHI sz raw pu T0 H0 env' nL tgt T H locs env' ls stk := by
  unfold z_sub2 at h
  simp only [Bool.and_eq_true] at h
  obtain ⟨⟨⟨⟨⟨⟨⟨⟨⟨⟨⟨a1, a2⟩, a3⟩, a4⟩, a5⟩, a6⟩, a7⟩, a8⟩, a9⟩, a10⟩, a11⟩, a12⟩ := h
  refine ⟨Nat.le_of_ble_eq_true a10, Nat.le_of_ble_eq_true a11, sg.map (fun i => env.getD i (.int 0)), ?_⟩
  have he : ∀ (t i : Nat), sg[t]? = some i → (sg.map (fun i => env.getD i (.int 0)))[t]? = env[i]? := by
    intro t i hi
    have hlt := z_blt (List.all_eq_true.mp a2 i (List.mem_of_getElem? hi))
    rw [← hs.1] at hlt
    rw [List.getElem?_map, hi, List.getElem?_eq_getElem hlt]
    simp [hlt]
  refine ⟨he, by rw [List.length_map]; exact z_beq a1, ⟨[], by rw [List.append_nil]⟩, ?_, z_seq_ok he a4 hs.2.2.2.1, fun q hq => ?_, fun q hq => ?_, fun q hq => ?_, fun q hq => ?_, ?_, ?_⟩
  · obtain ⟨lv, g1, g2, g3⟩ := hs.2.2.1
    refine ⟨lv, g1, g2, fun q hq => ?_⟩
    have h1 := List.all_eq_true.mp a3 q hq
    split at h1
    · rename_i d i hd hi
      obtain ⟨v, e1, e2⟩ := g3 _ (z_loc_mem hd)
      exact ⟨v, by rw [he _ _ hi, ← z_beq h1]; exact e1, e2⟩
    · cases h1
  · have h1 := List.all_eq_true.mp a5 q hq
    split at h1
    · rename_i i hi
      split at h1
      · rename_i c0 hc0
        obtain ⟨v, e1, e2⟩ := z_get_ok hs.2.2.2.2.1 hc0
        exact ⟨v, by rw [he _ _ hi]; exact e1, z_le_ok h1 e2⟩
      · cases h1
    · cases h1
  · have h1 := List.all_eq_true.mp a6 q hq
    split at h1
    · rename_i a v cur hia hiv
      split at h1
      · rename_i w hw
        rw [Bool.and_eq_true] at h1
        obtain ⟨f, hf, hf2⟩ := List.any_eq_true.mp h1.2
        simp only [Bool.and_eq_true] at hf2
        obtain ⟨ad, x, r, e1, e2, e3, e4, e5⟩ := hs.2.2.2.2.2.1 f hf
        rw [z_beq hf2.1.1.1] at e1
        rw [z_beq hf2.2] at e2
        rw [z_beq hf2.1.1.2] at e3 e5
        rw [z_beq hf2.1.2] at e4 e5
        exact ⟨ad, x, r, by rw [he _ _ hia]; exact e1, by rw [he _ _ hiv]; exact e2, e3, e4, e5⟩
      · cases h1
    · cases h1
  · have h1 := List.all_eq_true.mp a7 q hq
    split at h1
    · rename_i a j v hia hij hiv
      rw [Bool.and_eq_true] at h1
      obtain ⟨y, hy⟩ := z_isi_ok h1.1 hs
      have h2 := h1.2
      split at h2
      · rename_i w hw
        obtain ⟨ad, x, e1, e2, e3, e4⟩ := z_efind_ok hw hs hy
        rw [z_beq h2] at e2
        exact ⟨ad, y, x, by rw [he _ _ hia]; exact e1, by rw [he _ _ hij]; exact hy, e3, by rw [he _ _ hiv]; exact e2, e4⟩
      · cases h2
    · cases h1
  · have h1 := List.all_eq_true.mp a8 q hq
    split at h1
    · rename_i b a hib hia
      obtain ⟨vx, vy, e1, e2, e3⟩ := z_kr_int h1 hs
      exact ⟨vy, vx, by rw [he _ _ hib]; exact e1, by rw [he _ _ hia]; exact e2, e3⟩
    · cases h1
  · have : z_X tgt = [] := List.isEmpty_iff.mp a9
    show z_fx D cl T sz H0.size raw H _ (z_X tgt)
    rw [this]
    trivial
  · have := hs.2.2.2.2.2.2.2.2.2
    rw [z_beq a12] at this
    exact this
end ZCUTS
end
section
/-! A method by its certificate. -/
abbrev zCe : Type := zK × List zCu × Nat
def z_room (g : zSig) : Room := { frames := (g_rm g).1, cells := (g_mk g).1, slots := (g_mk g).2, locals := (g_rm g).2 }
def z_finV (TY : List zTy) (cl : List vw_C) (g : zSig) (ws : List Nat) (ret : Option FieldType) (st : zS) : Bool := (z_S st).isEmpty && ret.isNone && z_ret TY cl g ws st none
def z_chk (TY : List zTy) (PHI : List (List Nat)) (cl : List vw_C) (FT : Nat → Nat → FieldType) (MT : List zM) (SG : List (Nat × zSig)) (RO PHS : List Nat) (mm : zM) (g : zSig) (ce : zCe) : Bool := match z_ent TY cl FT mm.2.2.1 g with
  | some (st0, ws) => z_run (z_stp TY PHI cl FT MT SG RO PHS (z_room g) (g_pur g) mm.2.2.1 ce.1 mm.2.1 (z_finV TY cl g ws mm.2.2.2.1) (z_iret TY cl g ws mm.2.2.2.1)) (z_cut ce.2.1 (z_n st0) none) ce.2.2 0 st0 &&
    ce.2.1.all (fun k => k.2.2.2.2.all (fun q => Nat.blt q.1 (z_n k.2.1)) && z_run (z_stp TY PHI cl FT MT SG RO PHS (z_room g) (g_pur g) mm.2.2.1 ce.1 mm.2.1 (z_finV TY cl g ws mm.2.2.2.1) (z_iret TY cl g ws mm.2.2.2.1)) (z_cut ce.2.1 (z_n st0) (some k.2.2.2)) ce.2.2 k.1 k.2.1)
  | none => false
section ZMETHOD
variable {p : Program} {l : Launch} {e : Env} {R : Room} {s : State} {m : MethodId} {args : Array Value} {below : List Frame} {meth : Method} {c : Code} {Q : State → Prop} {cc : ByteArray} {pc : Nat}
variable {OB : Nat → Nat} {D : va_G} {DA : Nat → ClassId} {cl : List vw_C} {FT : Nat → Nat → FieldType} {TY : List zTy} {PHI : List (List Nat)} {sz : Nat} {raw : Option Nat} {pu : Bool} {T0 : zTp} {H0 : Heap} {env0 : List Value} {nL : Nat} {st st' : zS} {KXf : (Nat → Nat) → Nat → State → Heap → Prop} {good : Nat → zS → Prop}
variable {Ts TBL : List Cond} {own : String} {MT : List zM} {SG : List (Nat × zSig)} {RO PHS : List Nat} {K : zK}
theorem z_spl_ok (hg : z_Good p l e R s m args below meth c Q OB D DA cl TY PHI sz raw pu T0 H0 env0 nL good) {d : Nat} {t : Int} {L : List zS} (h : z_spl st d t = some L) (hall : ∀ s ∈ L, good pc s) : good pc st := by
  refine (hg _ _).mpr fun T H locs env ls stk hs => ?_
  unfold z_spl at h
  split at h
  · rename_i r hr
    cases h
    obtain ⟨v, e1, x, rfl, hx⟩ := z_get_ok hs.2.2.2.2.1 hr
    have fin : ∀ r2 : zR, z_in r2 x → z_mor st (z_S st) [(d, .inl r2)] [] ∈ (cond (z_ile r.1 t) [z_mor st (z_S st) [(d, .inl (r.1, z_min r.2 t))] []] [] ++ cond (z_ile (t + 1) r.2) [z_mor st (z_S st) [(d, .inl (z_max r.1 (t + 1), r.2))] []] []) → W p l e R s m args below meth c H locs (z_C st).1 (z_C st).2 Q (F0 m pc ls stk) := by
      intro r2 h2 hm
      refine (hg _ _).mp (hall _ hm) T H locs env ls stk (z_sat_mor hs hs.2.2.2.1 (fun q hq => ?_) (fun q hq => absurd hq List.not_mem_nil))
      rw [List.mem_singleton.mp hq]; exact ⟨_, e1, z_vi h2⟩
    rcases Int.lt_or_le t x.toInt with q | q
    · refine fin (z_max r.1 (t + 1), r.2) ⟨z_max_le hx.1 (by omega), hx.2⟩ ?_
      have : z_ile (t + 1) r.2 = true := decide_eq_true (by have := hx.2; omega)
      rw [this]
      exact List.mem_append_right _ (List.mem_singleton.mpr rfl)
    · refine fin (r.1, z_min r.2 t) ⟨hx.1, z_min_ge hx.2 q⟩ ?_
      have : z_ile r.1 t = true := decide_eq_true (by have := hx.1; omega)
      rw [this]
      exact List.mem_append_left _ (List.mem_singleton.mpr rfl)
  · cases h
theorem z_tig_ok (hg : z_Good p l e R s m args below meth c Q OB D DA cl TY PHI sz raw pu T0 H0 env0 nL good) {d f : Nat} {L : List zS} (h : z_tig st d f = some L) (hall : ∀ s ∈ L, good pc s) : good pc st := by
  refine (hg _ _).mpr fun T H locs env ls stk hs => ?_
  unfold z_tig at h
  split at h
  · rename_i r q k hr hq hk
    cases h
    obtain ⟨v, e1, x, rfl, hx⟩ := z_get_ok hs.2.2.2.2.1 hr
    obtain ⟨w, e2, y, rfl, hy⟩ := z_get_ok hs.2.2.2.2.1 hq
    obtain ⟨vx, g1, g2⟩ := z_lbs_ok hs.2.2.2.2.2.2.2.1 hk e2
    rw [e1] at g1
    cases g1
    refine (hg _ _).mp (hall _ (List.mem_singleton.mpr rfl)) T H locs env ls stk (z_sat_mor hs hs.2.2.2.1 (fun q2 hq2 => ?_) (fun q2 hq2 => absurd hq2 List.not_mem_nil))
    rw [List.mem_singleton.mp hq2]
    exact ⟨_, e1, z_vi ⟨hx.1, z_min_ge hx.2 (by have := hy.2; omega)⟩⟩
  · cases h
theorem z_act_ok (hg : z_Good p l e R s m args below meth c Q OB D DA cl TY PHI sz raw pu T0 H0 env0 nL good) (hPH : ∀ a ∈ PHS, z_phok TY PHI a = true) {q : Nat × Nat × Int} {L : List zS} (h : z_act TY PHI cl PHS pu q st = some L) (hall : ∀ s ∈ L, good pc s) : good pc st := by
  unfold z_act at h
  split at h
  · cases hp : pu with
    | true => rw [hp] at h; cases h
    | false =>
      rw [hp] at h
      have h : (match TY[q.2.1]? with
        | some (.inl o) => (match cl[o.1]? with
          | some r => cond (Nat.beq o.2.length r.2.2) ((z_pub TY st 0 q.2.1).map (fun s => [s])) none
          | none => none)
        | _ => none) = some L := h
      split at h
      · rename_i o ho
        split at h
        · rename_i r hr
          cases hb : Nat.beq o.2.length r.2.2 with
          | false => rw [hb] at h; cases h
          | true =>
            rw [hb] at h
            cases hz : z_pub TY st 0 q.2.1 with
            | none => rw [hz] at h; cases h
            | some s1 =>
              rw [hz] at h
              cases h
              refine z_pub_ok hp hg (fun ci fl h1 r2 h2 => ?_) hz (hall _ (List.mem_singleton.mpr rfl))
              rw [ho] at h1
              cases h1
              rw [hr] at h2
              cases h2
              exact z_beq hb
        · cases h
      · cases h
  · cases hp : (pu || !(PHS.any (fun x => Nat.beq x q.2.1))) with
    | true => rw [hp] at h; cases h
    | false =>
      rw [hp] at h
      rw [Bool.or_eq_false_iff] at hp
      obtain ⟨p1, p2⟩ := hp
      have p3 : PHS.any (fun x => Nat.beq x q.2.1) = true := by simpa using p2
      obtain ⟨a, ha, ha2⟩ := List.any_eq_true.mp p3
      have hph := hPH a ha
      rw [z_beq ha2] at hph
      cases hnb : Nat.beq (z_ph st) q.2.1 with
      | true =>
        rw [hnb] at h
        cases h
        exact hall _ (List.mem_singleton.mpr rfl)
      | false =>
        rw [hnb] at h
        cases hz : z_rty PHI st q.2.1 with
        | none => rw [hz] at h; cases h
        | some s1 =>
          rw [hz] at h
          cases h
          exact z_rty_ok p1 hg hph hz (hall _ (List.mem_singleton.mpr rfl))
  · split at h
    · exact z_spl_ok hg h hall
    · cases h
  · split at h
    · exact z_tig_ok hg h hall
    · cases h
  · split at h
    · exact z_spl_ok hg h hall
    · cases h
theorem z_fmp_ok {α : Type} {f : zS → Option (List α)} : ∀ {L : List zS} {r : List α}, z_fmp f L = some r → ∀ s ∈ L, ∃ a, f s = some a ∧ ∀ x ∈ a, x ∈ r
  | [], _, _, s, hs => absurd hs List.not_mem_nil
  | x :: L, r, h, s, hs => by
    unfold z_fmp at h
    split at h
    · rename_i a b ha hb
      cases h
      rcases List.mem_cons.mp hs with rfl | hs
      · exact ⟨a, ha, fun y hy => List.mem_append_left _ hy⟩
      · obtain ⟨a2, h1, h2⟩ := z_fmp_ok hb s hs
        exact ⟨a2, h1, fun y hy => List.mem_append_right _ (h2 y hy)⟩
    · cases h
theorem z_acts_ok (hg : z_Good p l e R s m args below meth c Q OB D DA cl TY PHI sz raw pu T0 H0 env0 nL good) (hPH : ∀ a ∈ PHS, z_phok TY PHI a = true) : ∀ {A : List (Nat × Nat × Nat × Int)} {st : zS} {L : List zS}, z_acts TY PHI cl PHS pu A pc st = some L → (∀ s ∈ L, good pc s) → good pc st
  | [], st, L, h, hall => by
    cases h
    exact hall _ (List.mem_singleton.mpr rfl)
  | q :: r, st, L, h, hall => by
    unfold z_acts at h
    cases hb : Nat.beq q.1 pc with
    | false => rw [hb] at h; exact z_acts_ok hg hPH h hall
    | true =>
      rw [hb] at h
      have h : (match z_act TY PHI cl PHS pu q.2 st with
        | some L => z_fmp (z_acts TY PHI cl PHS pu r pc) L
        | none => none) = some L := h
      split at h
      · rename_i L1 h1
        refine z_act_ok hg hPH h1 (fun s1 hs1 => ?_)
        obtain ⟨a, k1, k2⟩ := z_fmp_ok h s1 hs1
        exact z_acts_ok hg hPH k1 (fun x hx => hall x (k2 x hx))
      · cases h
theorem z_stp_ok (hg : z_Good p l e R s m args below meth c Q OB D DA cl TY PHI sz raw pu T0 H0 env0 nL good) (hx : p.tables.exec = Jvm.exec) (hb : c.code = cc) (hml : c.maxLocals = nL) (hD : z_Dy s m args Ts own D cl DA (z_tys DA)) (hsz : sz ≤ H0.size) (hXp : z_KXp sz (KXf OB sz)) (hX : KXf OB sz s H0) (hKS : z_KS Ts TBL cl FT own MT K) (hin : ∀ j, k_IN K = some j → meth.name = "<init>") (hPH : ∀ a ∈ PHS, z_phok TY PHI a = true)
    (hok : ∀ g ∈ (k_CA K).filterMap (fun a => SG[a.2]?), ∀ mm, MT[g.1]? = some mm → z_OK TBL cl FT TY PHI KXf mm.1 mm.2.1 mm.2.2.1 mm.2.2.2.1 g.2) {finV finI : zS → Bool} (hfV : ∀ pc st, decode cc pc = .ok (.return_, 1) → finV st = true → good pc st) (hfI : ∀ pc st, decode cc pc = .ok (.ireturn, 1) → finI st = true → good pc st)
    {L : List (Nat × zS)} (h : z_stp TY PHI cl FT MT SG RO PHS R pu nL K cc finV finI pc st = some L) (hall : ∀ q ∈ L, good q.1 q.2) : good pc st := by
  unfold z_stp at h
  split at h
  · rename_i L1 h1
    refine z_acts_ok hg hPH h1 (fun s1 hs1 => ?_)
    split at h
    · rename_i len hd
      cases hc : (Nat.beq len 1 && L1.all finV) with
      | false => rw [hc] at h; cases h
      | true =>
        rw [Bool.and_eq_true] at hc
        rw [z_beq hc.1] at hd
        exact hfV pc s1 hd (List.all_eq_true.mp hc.2 s1 hs1)
    · rename_i len hd
      cases hc : (Nat.beq len 1 && L1.all finI) with
      | false => rw [hc] at h; cases h
      | true =>
        rw [Bool.and_eq_true] at hc
        rw [z_beq hc.1] at hd
        exact hfI pc s1 hd (List.all_eq_true.mp hc.2 s1 hs1)
    · rename_i ins len _ _ hd
      obtain ⟨a, k1, k2⟩ := z_fmp_ok h s1 hs1
      exact z_step_ok hg hx hb hml hD hsz hXp hX hKS hin hok hd k1 (fun q hq => hall q (k2 q hq))
    · cases h
  · cases h
theorem z_run_ok {stp : Nat → zS → Option (List (Nat × zS))} {cut : Nat → zS → Bool} (hst : ∀ pc st L, stp pc st = some L → (∀ q ∈ L, good q.1 q.2) → good pc st) (hcut : ∀ pc st, cut pc st = true → good pc st) : ∀ {f pc : Nat} {st : zS}, z_run stp cut f pc st = true → good pc st
  | 0, _, _, h => by cases h
  | f + 1, pc, st, h => by
    unfold z_run at h
    split at h
    · rename_i L hL
      refine hst pc st L hL (fun q hq => ?_)
      have h1 := List.all_eq_true.mp h q hq
      rw [Bool.or_eq_true] at h1
      rcases h1 with h1 | h1
      · exact hcut _ _ h1
      · exact z_run_ok hst hcut h1
    · cases h
/-- a run with its cut points: 'ends' is what is known of the values with the first names -/
theorem z_runs {CU : List zCu} {ng : Nat} {stp : Nat → zS → Option (List (Nat × zS))} {fuel : Nat} {ends : List Value → Prop} (hends : ∀ env env' : List Value, ends env → (∀ i, i < ng → env'[i]? = env[i]?) → ends env')
    (hst : ∀ (env0 : List Value) (pc : Nat) (st : zS) (L : List (Nat × zS)), ends env0 → stp pc st = some L → (∀ q ∈ L, ∀ T H locs env ls stk, z_sat OB D DA cl TY PHI sz raw pu T0 H0 env0 nL q.2 T H locs env ls stk → W p l e R s m args below meth c H locs (z_C q.2).1 (z_C q.2).2 Q (F0 m q.1 ls stk)) → ∀ T H locs env ls stk, z_sat OB D DA cl TY PHI sz raw pu T0 H0 env0 nL st T H locs env ls stk → W p l e R s m args below meth c H locs (z_C st).1 (z_C st).2 Q (F0 m pc ls stk))
    (hCU : CU.all (fun k => k.2.2.2.2.all (fun q => Nat.blt q.1 (z_n k.2.1)) && z_run stp (z_cut CU ng (some k.2.2.2)) fuel k.1 k.2.1) = true) {st0 : zS} {pc0 : Nat} (h0 : z_run stp (z_cut CU ng none) fuel pc0 st0 = true) {env0 : List Value} (he : ends env0) {T : zTp} {H : Heap} {locs : List Loc} {env : List Value} {ls : Array Slot} {stk : List Value} (hng : ng ≤ env0.length)
    (hs : z_sat OB D DA cl TY PHI sz raw pu T0 H0 env0 nL st0 T H locs env ls stk) : W p l e R s m args below meth c H locs (z_C st0).1 (z_C st0).2 Q (F0 m pc0 ls stk) := by
  -- all cut points, by the rank
  have cuts : ∀ n : Nat, ∀ k ∈ CU, ∀ T H locs env ls stk, z_sat OB D DA cl TY PHI sz raw pu T0 H0 env nL k.2.1 T H locs env ls stk → ends env → ng ≤ env.length → 0 ≤ k.2.2.2.1 + z_ev env k.2.2.2.2 → (k.2.2.2.1 + z_ev env k.2.2.2.2).toNat ≤ n → W p l e R s m args below meth c H locs (z_C k.2.1).1 (z_C k.2.1).2 Q (F0 m k.1 ls stk) := by
    intro n
    induction n using Nat.strongRecOn with
    | ind n ih =>
      intro k hk T H locs env ls stk hs1 he1 hn1 hr0 hr1
      have hk2 := List.all_eq_true.mp hCU k hk
      rw [Bool.and_eq_true] at hk2
      refine z_run_ok (good := fun pc st => ∀ T H locs env2 ls stk, z_sat OB D DA cl TY PHI sz raw pu T0 H0 env nL st T H locs env2 ls stk → W p l e R s m args below meth c H locs (z_C st).1 (z_C st).2 Q (F0 m pc ls stk)) (fun pc st L h1 h2 => hst env pc st L he1 h1 h2) (fun pc st h1 => ?_) hk2.2 T H locs env ls stk hs1
      intro T2 H2 locs2 env2 ls2 stk2 hs2
      unfold z_cut at h1
      obtain ⟨k3, hk3, h3⟩ := List.any_eq_true.mp h1
      rw [Bool.and_eq_true] at h3
      obtain ⟨h3a, h3b⟩ := h3
      split at h3b
      · rename_i sg hsg
        simp only [Bool.and_eq_true] at h3b
        obtain ⟨⟨b1, b2⟩, b3⟩ := h3b
        obtain ⟨c1, c2, env3, c3, c4⟩ := z_sub2_ok b1 hs2
        have gh : ∀ i, i < ng → env3[i]? = env[i]? := by
          intro i hi
          have := List.all_eq_true.mp b2 i (List.mem_range.mpr hi)
          split at this
          · rename_i j hj
            obtain ⟨w, hw⟩ := hs2.2.1
            rw [c3 _ _ hj, z_beq this, hw, List.getElem?_append_left (by omega)]
          · cases this
        unfold z_rnk at b3
        split at b3
        · rename_i t ht
          rw [Bool.and_eq_true] at b3
          obtain ⟨d1, d2⟩ := b3
          have e3 := z_ev_map c3 ht
          obtain ⟨w, hw⟩ := hs2.2.1
          have e4 : z_ev env2 k.2.2.2.2 = z_ev env k.2.2.2.2 := by
            rw [hw]
            refine z_ev_pre ?_
            rw [hs1.1]; exact hk2.1
          have lo : 0 ≤ k3.2.2.2.1 + z_ev env3 k3.2.2.2.2 := by
            split at d1
            · rename_i b hb
              have := z_lw_ok hs2 hb
              have := z_ile_ok d1
              rw [e3]; omega
            · cases d1
          have lt : k3.2.2.2.1 + z_ev env3 k3.2.2.2.2 < k.2.2.2.1 + z_ev env k.2.2.2.2 := by
            have d2 : (match z_lw st 12 (k.2.2.2.2 ++ t.map (fun q => (q.1, -q.2))) with
              | some b => z_ile 1 (k.2.2.2.1 - k3.2.2.2.1 + b)
              | none => false) = true := d2
            split at d2
            · rename_i b hb
              have h5 := z_lw_ok hs2 hb
              have h6 := z_ile_ok d2
              rw [z_ev_app, z_ev_neg, e4] at h5
              rw [e3]; omega
            · cases d2
          have hlen : ng ≤ env3.length := by
            rcases Nat.eq_zero_or_pos ng with h | h
            · omega
            · have h7 := gh (ng - 1) (by omega)
              have h8 : ng - 1 < env.length := by omega
              rw [List.getElem?_eq_getElem h8] at h7
              have := (List.getElem?_eq_some_iff.mp h7).1
              omega
          have := ih (k3.2.2.2.1 + z_ev env3 k3.2.2.2.2).toNat (by omega) k3 hk3 T2 H2 locs2 env3 ls2 stk2 c4 (hends env env3 he1 gh) hlen lo (Nat.le_refl _)
          rw [z_beq h3a] at this
          exact W.widen c1 c2 this
        · cases b3
      · cases h3b
  refine z_run_ok (good := fun pc st => ∀ T H locs env2 ls stk, z_sat OB D DA cl TY PHI sz raw pu T0 H0 env0 nL st T H locs env2 ls stk → W p l e R s m args below meth c H locs (z_C st).1 (z_C st).2 Q (F0 m pc ls stk)) (fun pc st L h1 h2 => hst env0 pc st L he h1 h2) (fun pc st h1 => ?_) h0 T H locs env ls stk hs
  intro T2 H2 locs2 env2 ls2 stk2 hs2
  unfold z_cut at h1
  obtain ⟨k3, hk3, h3⟩ := List.any_eq_true.mp h1
  rw [Bool.and_eq_true] at h3
  obtain ⟨h3a, h3b⟩ := h3
  split at h3b
  · rename_i sg hsg
    simp only [Bool.and_eq_true] at h3b
    obtain ⟨⟨b1, b2⟩, b3⟩ := h3b
    obtain ⟨c1, c2, env3, c3, c4⟩ := z_sub2_ok b1 hs2
    have gh : ∀ i, i < ng → env3[i]? = env0[i]? := by
      intro i hi
      have := List.all_eq_true.mp b2 i (List.mem_range.mpr hi)
      split at this
      · rename_i j hj
        obtain ⟨w, hw⟩ := hs2.2.1
        rw [c3 _ _ hj, z_beq this, hw, List.getElem?_append_left (by omega)]
      · cases this
    unfold z_rnk at b3
    split at b3
    · rename_i t ht
      rw [Bool.and_eq_true] at b3
      obtain ⟨d1, d2⟩ := b3
      have e3 := z_ev_map c3 ht
      have lo : 0 ≤ k3.2.2.2.1 + z_ev env3 k3.2.2.2.2 := by
        split at d1
        · rename_i b hb
          have := z_lw_ok hs2 hb
          have := z_ile_ok d1
          rw [e3]; omega
        · cases d1
      have hlen : ng ≤ env3.length := by
        rcases Nat.eq_zero_or_pos ng with h | h
        · omega
        · have h7 := gh (ng - 1) (by omega)
          have h8 : ng - 1 < env0.length := by omega
          rw [List.getElem?_eq_getElem h8] at h7
          have := (List.getElem?_eq_some_iff.mp h7).1
          omega
      have := cuts _ k3 hk3 T2 H2 locs2 env3 ls2 stk2 c4 (hends env0 env3 he gh) hlen lo (Nat.le_refl _)
      rw [z_beq h3a] at this
      exact W.widen c1 c2 this
    · cases b3
  · cases h3b
end ZMETHOD
end
section
/-! A checked certificate gives the contract. -/
section ZCLOSED
variable {cl : List vw_C} {FT : Nat → Nat → FieldType} {TY : List zTy} {PHI : List (List Nat)} {KXf : (Nat → Nat) → Nat → State → Heap → Prop} {TBL : List Cond} {MT : List zM} {SG : List (Nat × zSig)} {RO PHS : List Nat}
theorem z_tys_ok (DA : Nat → ClassId) : ∀ k, k < 3 → (z_tys DA)[k]? = some (DA k, z_ek k) := by
  intro k hk
  match k, hk with
  | 0, _ => rfl
  | 1, _ => rfl
  | 2, _ => rfl
theorem z_meth {mm : zM} {g : zSig} {ce : zCe} (hpl : plainFor mm.1 = true) (hKS : z_KS (Cond.code mm.1 mm.2.1 mm.2.2.1 mm.2.2.2.1 :: TBL) TBL cl FT mm.1.cls MT ce.1) (hin : ∀ j, k_IN ce.1 = some j → mm.1.name = "<init>") (hXp : ∀ OB sz, z_KXp sz (KXf OB sz)) (hPH : ∀ a ∈ PHS, z_phok TY PHI a = true)
    (hok : ∀ g ∈ (k_CA ce.1).filterMap (fun a => SG[a.2]?), ∀ m2, MT[g.1]? = some m2 → z_OK TBL cl FT TY PHI KXf m2.1 m2.2.1 m2.2.2.1 m2.2.2.2.1 g.2) (h : z_chk TY PHI cl FT MT SG RO PHS mm g ce = true) : z_OK TBL cl FT TY PHI KXf mm.1 mm.2.1 mm.2.2.1 mm.2.2.2.1 g := by
  intro l OB D DA sz T
  refine va_MetF (cc := mm.2.1) (maxL := mm.2.2.1) (ret := mm.2.2.2.1) hpl rfl ?_
  intro p e s m args below meth c s₁ B hml hPre
  unfold z_chk at h
  split at h
  · rename_i st0 ws hent
    rw [Bool.and_eq_true] at h
    obtain ⟨vals, e0, hrest⟩ := hPre
    subst e0
    have hPre2 : z_Pre OB D DA cl FT TY sz (KXf OB sz) g T vals.toArray s := ⟨vals, rfl, hrest⟩
    obtain ⟨hl, h1, h2, h3, h4, h5, hsz, hK, hX⟩ := hrest
    obtain ⟨hcat, hn, env, raw, hraw, hsat, hlen, hvals, hwl, hws⟩ := z_ent_ok (pu := g_pur g) (PHI := PHI) hPre2 hent
    have hts : ∀ w ∈ (Cond.code mm.1 mm.2.1 mm.2.2.1 mm.2.2.2.1 :: TBL), w.before vals.toArray s = true := atoms_spec (ws := Cond.code mm.1 mm.2.1 mm.2.2.1 mm.2.2.2.1 :: TBL) B.pre
    have hown : s.vm.findClass mm.1.cls = some m.cls := findClass_of_methodNamed B.named
    have hD : z_Dy s m vals.toArray (Cond.code mm.1 mm.2.1 mm.2.2.1 mm.2.2.2.1 :: TBL) mm.1.cls D cl DA (z_tys DA) := ⟨hts, hown, hK, z_tys_ok DA⟩
    have hname : meth.name = mm.1.name := (name_of_methodNamed B.named B.method).1
    rw [lg_entry_eq]
    have hng : z_n st0 ≤ env.length := by rw [hsat.1]; exact Nat.le_refl _
    have hE0 : z_Ent D cl g raw (g_pur g) s.heap env vals ws := ⟨hraw, fun h => h, hlen, hvals, hwl, hws⟩
    have hC : z_C st0 = (0, 0) ∨ True := Or.inr trivial
    refine W.widen (Nat.zero_le _) (Nat.zero_le _) (z_runs (ng := z_n st0) (ends := fun env2 => z_Ent D cl g raw (g_pur g) s.heap env2 vals ws ∧ (∀ i, i < z_n st0 → env2[i]? = env[i]?)) (fun env1 env2 he hgh => ?_) (fun env1 pc st L he hL hall => ?_) h.2 h.1 ⟨hE0, fun _ _ => rfl⟩ hng hsat)
    · obtain ⟨⟨a1, a2, a3, a4, a5, a6⟩, a7⟩ := he
      have all : ∀ i, i < z_n st0 → env2[i]? = env[i]? := fun i hi => (hgh i hi).trans (a7 i hi)
      refine ⟨⟨a1, a2, a3, fun j v hj => ?_, a5, fun i q w hi hw => ?_⟩, all⟩
      · have hv := hvals j v hj
        have hlt : j < z_n st0 := by rw [← hsat.1]; exact (List.getElem?_eq_some_iff.mp hv).1
        rw [all j hlt]; exact hv
      · obtain ⟨v, y1, y2⟩ := hws i q w hi hw
        have hlt : w < z_n st0 := by rw [← hsat.1]; exact (List.getElem?_eq_some_iff.mp y1).1
        exact ⟨v, by rw [all w hlt]; exact y1, y2⟩
    · refine z_stp_ok (good := fun pc st => ∀ T2 H2 locs2 env2 ls2 stk2, z_sat OB D DA cl TY PHI sz raw (g_pur g) T s.heap env1 mm.2.2.1 st T2 H2 locs2 env2 ls2 stk2 → W p l e (z_room g) s m vals.toArray below meth c H2 locs2 (z_C st).1 (z_C st).2 (MQ below (z_Post OB D DA cl TY PHI sz g T) vals.toArray s (g_mk g).1 (g_mk g).2 (fun q => sz ≤ q)) (F0 m pc ls2 stk2)) (fun _ _ => Iff.rfl) B.exec B.bytes hml hD hsz (hXp OB sz) hX hKS (fun j hj => by rw [hname]; exact hin j hj) hPH hok (fun pc st hd hf => ?_) (fun pc st hd hf => ?_) hL hall
      · unfold z_finV at hf
        simp only [Bool.and_eq_true] at hf
        obtain ⟨⟨f1, f2⟩, f3⟩ := hf
        have hr : meth.sig.returnType = none := by rw [B.returns]; exact Option.isNone_iff_eq_none.mp f2
        exact z_r_vret (fun _ _ => Iff.rfl) B.exec B.bytes hr B.notSynchronized he.1 hd (List.isEmpty_iff.mp f1) f3
      · exact z_r_iret (fun _ _ => Iff.rfl) B.exec B.bytes B.returns B.notSynchronized he.1 hd hf
  · cases h
end ZCLOSED
end
