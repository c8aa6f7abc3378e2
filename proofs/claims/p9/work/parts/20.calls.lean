/-! Calls. -/
def z_popn (n : Nat) (S : List Nat) : Option (List Nat × List Nat) := cond (Nat.ble n S.length) (some ((S.take n).reverse, S.drop n)) none
def z_csum (st : zS) : List Nat → Option Nat
  | [] => some 0
  | d :: S => match z_csum st S with
    | some n => cond (z_isi st d || z_isr st d) (some (n + 1)) (match z_get (z_V st) d with
      | some (.inr (.inr 0)) => some (n + 2)
      | _ => none)
    | none => none
/-- the arguments are such as are asked for -/
def z_pck (FT : Nat → Nat → FieldType) (cl : List vw_C) (g : zSig) (As gs : List Nat) (st : zS) : Bool :=
  (List.range (g_prm g).length).all (fun j => match (g_prm g)[j]?, As[j]? with
    | some c, some a => (match g_raw g with
        | some _ => Nat.beq j 0
        | none => false) || (match z_get (z_V st) a with
        | some c' => z_le c' c
        | none => false)
    | _, _ => false) &&
  (match g_raw g with
    | none => true
    | some ci => (match As[0]?, cl[ci]? with
      | some a, some r => (z_X st).any (fun p => Nat.beq p.1 a && Nat.beq p.2 ci) && (List.range r.2.2).all (fun k => !(z_zf (FT ci k)) || (match z_ffind st a ci k with
        | some w => (match z_get (z_V st) w with
          | some (.inl z) => z_ile 0 z.1 && z_ile z.2 0
          | _ => false)
        | none => false))
      | _, _ => false)) &&
  (List.range (g_loc g).length).all (fun i => match (g_loc g)[i]?, gs[i]? with
    | some q, some w => (match z_get (z_V st) w with
      | some c => z_le c q.2
      | none => false)
    | _, _ => false)
/-- what is known of a final field of a typed object -/
def z_fnl (TY : List zTy) (cl : List vw_C) (st : zS) (f : Nat × Nat × Nat × Nat) : Bool := match z_get (z_V st) f.1 with
  | some (.inr (.inl t)) => (match TY[t]?, cl[f.2.1]? with
    | some (.inl o), some r => Nat.beq o.1 f.2.1 && (r.2.1 f.2.2.1).2.2.2
    | _, _ => false)
  | _ => false
/-- behind the call, whatever the end -/
def z_bas (TY : List zTy) (cl : List vw_C) (PHI : List (List Nat)) (g : zSig) (As : List Nat) (st : zS) : zS :=
  (z_L st, z_S st, z_n st, cond (Nat.beq (g_ph g) 0) (z_V st) ((z_V st).map (fun q => (q.1, z_mp PHI (g_ph g) q.2))),
    cond (g_pur g) (z_F st) ((z_F st).filter (fun q => z_fnl TY cl st q || (z_isx st q.1 && (match g_raw g, As[0]? with
      | some _, some a => !(Nat.beq q.1 a)
      | _, _ => true)))), cond (g_pur g) (z_E st) [], z_R st, (match g_raw g, As[0]? with
      | some _, some a => (z_X st).filter (fun p => !(Nat.beq p.1 a))
      | _, _ => z_X st), ((z_C st).1 + (g_mk g).1, (z_C st).2 + (g_mk g).2), cond (Nat.beq (g_ph g) 0) (z_ph st) (cond (Nat.beq (z_ph st) 0) (g_ph g) (g_ph g * 1000 + z_ph st)))
/-- what an end says of the arguments: nothing comes where it can't be -/
def z_rfA (As : List Nat) : List (Nat × zV) → zS → Option (List zS)
  | [], st => some [st]
  | q :: r, st => match As[q.1]? with
    | some a => (match z_get (z_V st) a, q.2 with
      | some (.inl x), .inl y => cond (z_ile (z_max x.1 y.1) (z_min x.2 y.2)) (z_rfA As r (z_mor st (z_S st) [(a, .inl (z_max x.1 y.1, z_min x.2 y.2))] [])) (some [])
      | _, c => z_rfA As r (z_mor st (z_S st) [(a, c)] []))
    | none => none
def z_rel2 (w g : Nat) (h : zV × Option Int × Option Int) : List (Nat × Nat × Int) :=
  (match h.2.1 with
    | some k => [(w, g, k)]
    | none => []) ++ (match h.2.2 with
    | some k => [(g, w, -k)]
    | none => [])
/-- what is known of a place's new value: by itself, and by the old one -/
def z_rfV (st : zS) (gi : Nat) (h : zV × Option Int × Option Int) : zV := match h.1, z_get (z_V st) gi with
  | .inl r, some (.inl a) => .inl (match h.2.1 with
    | some k => z_max r.1 (a.1 + k)
    | none => r.1, match h.2.2 with
    | some k => z_min r.2 (a.2 + k)
    | none => r.2)
  | c, _ => c
def z_emp (c : zV) : Bool := match c with
  | .inl r => !(z_ile r.1 r.2)
  | _ => false
/-- what an end says of the places -/
def z_rfL (TY : List zTy) (As : List Nat) : List ((zLoc × zV) × Nat × (zV × Option Int × Option Int)) → zS → Option (List zS)
  | [], st => some [st]
  | q :: r, st => cond (z_emp (z_rfV st q.2.1 q.2.2)) (some []) (match As[q.1.1.1]? with
    | some a => (match q.1.1.2.2.2 with
      | none => z_rfL TY As r (z_L st, z_S st, z_n st + 1, (z_n st, z_rfV st q.2.1 q.2.2) :: z_V st, (a, q.1.1.2.1, q.1.1.2.2.1, z_n st) :: z_F st, z_E st, z_rel2 (z_n st) q.2.1 q.2.2 ++ z_R st, z_X st, z_C st, z_ph st)
      | some c => (match z_ffind st a q.1.1.2.1 q.1.1.2.2.1 with
        | some w => cond (Nat.ble c 1000000) (z_rfL TY As r (z_L st, z_S st, z_n st + 2, (z_n st + 1, z_rfV st q.2.1 q.2.2) :: (z_n st, .inl ((c : Int), (c : Int))) :: z_V st, z_F st, (w, z_n st, z_n st + 1) :: z_E st, z_rel2 (z_n st + 1) q.2.1 q.2.2 ++ z_R st, z_X st, z_C st, z_ph st)) none
        | none => (match z_get (z_V st) a with
        | some (.inr (.inl t)) => (match TY[t]? with
          | some (.inl o) => (match o.2[q.1.1.2.2.1]? with
            | some cf => cond (Nat.beq o.1 q.1.1.2.1 && Nat.ble c 1000000) (z_rfL TY As r (z_L st, z_S st, z_n st + 3, (z_n st + 2, z_rfV st q.2.1 q.2.2) :: (z_n st + 1, .inl ((c : Int), (c : Int))) :: (z_n st, cf) :: z_V st, (a, q.1.1.2.1, q.1.1.2.2.1, z_n st) :: z_F st, (z_n st, z_n st + 1, z_n st + 2) :: z_E st, z_rel2 (z_n st + 2) q.2.1 q.2.2 ++ z_R st, z_X st, z_C st, z_ph st)) none
            | none => none)
          | _ => none)
        | _ => none)))
    | none => none)
def z_cas (TY : List zTy) (cl : List vw_C) (PHI : List (List Nat)) (g : zSig) (As gs : List Nat) (st : zS) (P : zP) : Option (List zS) := match z_rfA As P.1 (z_bas TY cl PHI g As st) with
  | some [st1] => (match z_rfL TY As ((g_loc g).zip (gs.zip P.2.2.1)) st1 with
    | some [st2] => (match z_rfL TY As (P.2.2.2.map (fun q => (q, (As[q.1.1]?).getD 0, q.2, none, none))) st2 with
      | some [st3] => (match P.2.1 with
        | none => some [st3]
        | some c => some [z_psh st3 (z_S st3) c []])
      | some _ => some []
      | none => none)
    | some _ => some []
    | none => none)
  | some _ => some []
  | none => none
def z_cal (TY : List zTy) (PHI : List (List Nat)) (cl : List vw_C) (FT : Nat → Nat → FieldType) (R : Room) (pu : Bool) (maxL : Nat) (g : zSig) (st : zS) : Option (List zS) := match z_popn (g_prm g).length (z_S st) with
  | some (As, rest) => (match z_gls TY cl As (g_loc g) (z_stS st rest) with
    | some (st1, gs) => (match z_csum st1 rest with
      | some n => cond (Nat.ble n 8 && z_pck FT cl g As gs st1 && Nat.ble ((z_C st1).1 + (g_mk g).1) R.cells && Nat.ble ((z_C st1).2 + (g_mk g).2) R.slots && Nat.ble ((g_rm g).1 + 1) R.frames && Nat.ble (8 + (maxL + 11) + (g_rm g).2) R.locals && (Nat.beq (g_ph g) 0 || (Nat.beq (z_ph st1) 0 || (Nat.blt (z_ph st1) 1000 && Nat.blt (g_ph g) 1000))) && (g_pur g || !pu))
          ((g_pst g).foldr (fun P acc => match z_cas TY cl PHI g As gs st1 P, acc with
            | some a, some b => some (a ++ b)
            | _, _ => none) (some [])) none
      | none => none)
    | none => none)
  | none => none
section ZCALLS
variable {p : Program} {l : Launch} {e : Env} {R : Room} {s : State} {m : MethodId} {args : Array Value} {below : List Frame} {meth : Method} {c : Code} {Q : State → Prop} {cc : ByteArray} {pc : Nat}
variable {OB : Nat → Nat} {D : va_G} {DA : Nat → ClassId} {cl : List vw_C} {FT : Nat → Nat → FieldType} {TY : List zTy} {PHI : List (List Nat)} {sz : Nat} {raw : Option Nat} {pu : Bool} {T0 : zTp} {H0 : Heap} {env0 : List Value} {nL : Nat} {st st' : zS} {T : zTp} {H : Heap} {locs : List Loc} {env : List Value} {ls : Array Slot} {stk : List Value} {g : zSig} {KX : State → Heap → Prop} {rest : List Value} {cells slots mc ms : Nat} {good : Nat → zS → Prop}
theorem z_after {vals : List Value} {st0 : List Value} (hr : va_Run p l e R s m args below meth c H locs cells slots mc ms (F0 m pc ls st0) rest (z_Post OB D DA cl TY PHI sz g T vals.toArray) (fun q => sz ≤ q)) (hS : va_S (fun q => sz ≤ q) H0 H locs)
    (kk : ∀ (v : Option Value) (s1 t : State) (H1 : Heap) (locs1 : List Loc), s1.heap = H → t.heap = H1 → z_Post OB D DA cl TY PHI sz g T vals.toArray s1 (.returned v) t → va_S (fun q => sz ≤ q) H0 H1 locs1 → W p l e R s m args below meth c H1 locs1 (cells + mc) (slots + ms) Q (F0 m (pc + 3) ls (v.toList ++ rest))) : W p l e R s m args below meth c H locs cells slots Q (F0 m pc ls st0) := by
  intro T1 hT X
  obtain ⟨v, st₀, t, T', L, h0, X', hL, e1, e2, hq, st⟩ := hr T1 hT X
  have hq2 := hq
  obtain ⟨vals2, v2, T2, q1, q2, q3, q4, q5, q6, q7, q8, q9⟩ := hq
  obtain ⟨t2, a1, b1⟩ := kk v st₀ t T'.heap (locs ++ L) h0 e1.symm hq2 ⟨Nat.le_trans hS.1 (by rw [e1, ← h0]; exact q7), fun q h1 h2 => by
      rw [e1, q8 q (by rw [h0]; exact Nat.lt_of_lt_of_le h1 hS.1) h2, h0]; exact hS.2.1 q h1 h2, fun q hq => by
      rcases List.mem_append.mp hq with h | h
      · exact hS.2.2 q h
      · exact hL q h⟩ T' rfl X'
  exact ⟨t2, st t2 a1, b1⟩
theorem z_mp0 {k : zV} : z_mp PHI 0 k = k := by
  match k with
  | .inl r => rfl
  | .inr (.inl t) => rfl
  | .inr (.inr k) => rfl
theorem z_popn_ok : ∀ (n : Nat) {S As rest : List Nat} {stk : List Value}, z_popn n S = some (As, rest) → z_stk env S stk → ∃ (va vr : List Value), stk = va.reverse ++ vr ∧ va.length = n ∧ As.length = n ∧ z_stk env rest vr ∧ ∀ (j : Nat) (a : Nat), As[j]? = some a → ∃ v, va[j]? = some v ∧ env[a]? = some v := by
  intro n S As rest stk h hs
  obtain ⟨h1, h2⟩ := z_cond h
  cases h2
  have h1 := Nat.le_of_ble_eq_true h1
  have key : ∀ (n : Nat) (S : List Nat) (stk : List Value), n ≤ S.length → z_stk env S stk → ∃ (a b : List Value), stk = a ++ b ∧ a.length = n ∧ z_stk env (S.drop n) b ∧ ∀ (j d : Nat), (S.take n)[j]? = some d → ∃ v, a[j]? = some v ∧ env[d]? = some v := by
    intro n
    induction n with
    | zero => intro S stk _ h; exact ⟨[], stk, rfl, rfl, h, fun j d hj => by simp at hj⟩
    | succ n ih =>
      intro S stk hn h
      cases S with
      | nil => simp at hn
      | cons x S =>
        obtain ⟨v, k, rfl, e1, hk⟩ := h
        obtain ⟨a, b, rfl, g2, g3, g4⟩ := ih S k (by simpa using hn) hk
        refine ⟨v :: a, b, rfl, by simp [g2], g3, fun j d hj => ?_⟩
        cases j with
        | zero =>
          have : x = d := by simpa using hj
          subst this
          exact ⟨v, rfl, e1⟩
        | succ j =>
          obtain ⟨w, e2, e3⟩ := g4 j d (by simpa using hj)
          exact ⟨w, by simpa using e2, e3⟩
  obtain ⟨a, b, g1, g2, g3, g4⟩ := key n S stk h1 hs
  refine ⟨a.reverse, b, by rw [List.reverse_reverse]; exact g1, by simp [g2], by simp [Nat.min_eq_left h1], g3, fun j d hj => ?_⟩
  have hlt : j < n := by
    have := (List.getElem?_eq_some_iff.mp hj).1
    simp at this; omega
  have hlen : (S.take n).length = n := by simp [Nat.min_eq_left h1]
  rw [List.getElem?_reverse (by omega)] at hj
  obtain ⟨v, e1, e2⟩ := g4 _ d hj
  refine ⟨v, ?_, e2⟩
  rw [List.getElem?_reverse (by omega)]
  rw [hlen] at e1
  rw [g2]
  exact e1
theorem z_csum_ok : ∀ {S : List Nat} {n : Nat} {k : List Value}, z_csum st S = some n → z_sat OB D DA cl TY PHI sz raw pu T0 H0 env0 nL st T H locs env ls stk → z_stk env S k → (k.map fun v => v.category).sum = n
  | [], n, k, h, _, hk => by
    have hk : k = [] := hk
    subst hk
    cases h
    rfl
  | d :: S, n, k, h, hs, hk => by
    obtain ⟨v, k2, rfl, e1, hk2⟩ := hk
    unfold z_csum at h
    cases h1 : z_csum st S with
    | none => rw [h1] at h; cases h
    | some n1 =>
      rw [h1] at h
      have ih := z_csum_ok h1 hs hk2
      have h : cond (z_isi st d || z_isr st d) (some (n1 + 1)) (match z_get (z_V st) d with
        | some (.inr (.inr 0)) => some (n1 + 2)
        | _ => none) = some n := h
      cases hc : (z_isi st d || z_isr st d) with
      | true =>
        rw [hc] at h
        cases h
        have := z_cat_ok hc hs e1
        simp [this, ih, Nat.add_comm]
      | false =>
        rw [hc] at h
        have h : (match z_get (z_V st) d with
          | some (.inr (.inr 0)) => some (n1 + 2)
          | _ => none) = some n := h
        split at h
        · rename_i hv
          cases h
          obtain ⟨w, e2, x, rfl⟩ := z_get_ok hs.2.2.2.2.1 hv
          rw [e1] at e2
          cases e2
          have : (Value.long x).category = 2 := rfl
          simp [this, ih, Nat.add_comm]
        · cases h
end ZCALLS
