/-! Entry and end of a method. -/
def z_tys (DA : Nat → ClassId) : List (ClassId × FieldType) := [(DA 0, .int), (DA 1, .byte), (DA 2, .long)]
def z_gls (TY : List zTy) (cl : List vw_C) (As : List Nat) : List (zLoc × zV) → zS → Option (zS × List Nat)
  | [], st => some (st, [])
  | q :: r, st => match As[q.1.1]?, cl[q.1.2.1]? with
    | some d, some c => cond (Nat.blt q.1.2.2.1 c.2.2) (match z_gl TY st d q.1 with
      | some (st1, w) => (match z_gls TY cl As r st1 with
        | some (st2, ws) => some (st2, w :: ws)
        | none => none)
      | none => none) none
    | _, _ => none
def z_en : Nat → List zV → List (Nat × zV)
  | _, [] => []
  | i, c :: r => (i, c) :: z_en (i + 1) r
theorem z_en_mem : ∀ {L : List zV} {i : Nat} {q : Nat × zV}, q ∈ z_en i L → ∃ j, L[j]? = some q.2 ∧ q.1 = i + j
  | [], i, q, h => absurd h List.not_mem_nil
  | c :: r, i, q, h => by
    rcases List.mem_cons.mp h with rfl | h
    · exact ⟨0, rfl, rfl⟩
    · obtain ⟨j, h1, h2⟩ := z_en_mem h
      exact ⟨j + 1, by simpa using h1, by omega⟩
def z_c1 (c : zV) : Bool := match c with
  | .inl _ => true
  | .inr (.inl _) => true
  | .inr (.inr 0) => false
  | .inr (.inr (_ + 1)) => true
def z_Pre (OB : Nat → Nat) (D : va_G) (DA : Nat → ClassId) (cl : List vw_C) (FT : Nat → Nat → FieldType) (TY : List zTy) (sz : Nat) (KX : State → Heap → Prop) (g : zSig) (T : zTp) (args : Array Value) (U : State) : Prop :=
  ∃ vals : List Value, args = vals.toArray ∧ vals.length = (g_prm g).length ∧
    (∀ j c, (g_prm g)[j]? = some c → (g_raw g = none ∨ j ≠ 0) → ∃ v, vals[j]? = some v ∧ z_v OB T c v) ∧
    (∀ ci, g_raw g = some ci → ∃ a r V, vals[0]? = some (.ref a) ∧ T a = none ∧ sz ≤ a ∧ cl[ci]? = some r ∧ t_OB a (D.1 ci) r.2.2 (D.2 ci) U.heap V ∧ ∀ k, k < r.2.2 → z_zf (FT ci k) = true → V k = .int 0) ∧
    (∀ q ∈ g_loc g, ∃ w, z_lv D cl U.heap (vals[q.1.1]?) q.1 w ∧ z_v OB T q.2 w) ∧
    z_ht OB D DA cl TY T U.heap ∧ (∀ a t, T a = some t → sz ≤ a) ∧ sz ≤ U.heap.size ∧ va_K D cl (z_tys DA) U ∧ KX U U.heap
/-- one of a method's ends -/
def z_Cs (OB : Nat → Nat) (D : va_G) (cl : List vw_C) (g : zSig) (T' : zTp) (vals : List Value) (H H' : Heap) (v : Option Value) (P : zP) : Prop :=
  (∀ q ∈ P.1, ∃ x, vals[q.1]? = some x ∧ z_v OB T' q.2 x) ∧
  (match P.2.1, v with
    | none, none => True
    | some c, some x => z_v OB T' c x
    | _, _ => False) ∧
  (∀ q ∈ P.2.2.2, ∃ w, z_lv D cl H' (vals[q.1.1]?) q.1 w ∧ z_v OB T' q.2 w) ∧
  (∀ (i : Nat) (q : zLoc × zV) (h : zV × Option Int × Option Int), (g_loc g)[i]? = some q → P.2.2.1[i]? = some h → ∃ w0 w, z_lv D cl H (vals[q.1.1]?) q.1 w0 ∧ z_lv D cl H' (vals[q.1.1]?) q.1 w ∧ z_v OB T' h.1 w ∧
    (∀ k, h.2.1 = some k → ∃ x y : Int32, w0 = .int x ∧ w = .int y ∧ x.toInt + k ≤ y.toInt) ∧ (∀ k, h.2.2 = some k → ∃ x y : Int32, w0 = .int x ∧ w = .int y ∧ y.toInt ≤ x.toInt + k))
def z_Post (OB : Nat → Nat) (D : va_G) (DA : Nat → ClassId) (cl : List vw_C) (TY : List zTy) (PHI : List (List Nat)) (sz : Nat) (g : zSig) (T : zTp) (args : Array Value) (st : State) (o : Outcome) (t : State) : Prop :=
  ∃ (vals : List Value) (v : Option Value) (T' : zTp), args = vals.toArray ∧ o = .returned v ∧ z_ht OB D DA cl TY T' t.heap ∧ (∀ a u, T' a = some u → sz ≤ a) ∧ (∀ a u, T a = some u → T' a = some (z_phi PHI (g_ph g) u)) ∧
    (∀ q, q < st.heap.size → T q = none → ((g_raw g).isSome = true → vals[0]? ≠ some (.ref q)) → T' q = none ∧ t.heap[q]? = st.heap[q]?) ∧ st.heap.size ≤ t.heap.size ∧ (∀ q, q < st.heap.size → ¬ sz ≤ q → t.heap[q]? = st.heap[q]?) ∧
    ((g_pur g = true → t.heap = st.heap ∧ T' = T) ∧ z_fin D cl TY T st.heap T' t.heap) ∧ ∃ P ∈ g_pst g, z_Cs OB D cl g T' vals st.heap t.heap v P
/-- the state at the entry, and the symbols of the places -/
def z_ent (TY : List zTy) (cl : List vw_C) (FT : Nat → Nat → FieldType) (nL : Nat) (g : zSig) : Option (zS × List Nat) :=
  cond ((g_prm g).all z_c1 && Nat.ble (g_prm g).length nL) (match g_raw g with
    | none => (match z_gls TY cl (List.range (g_prm g).length) (g_loc g) ((List.range (g_prm g).length).map (fun i => (i, i)), [], (g_prm g).length, z_en 0 (g_prm g), [], [], [], [], (0, 0), 0) with
      | some (st, ws) => some (z_mor st [] (ws.zip ((g_loc g).map (fun q => q.2))) [], ws)
      | none => none)
    | some ci => (match cl[ci]?, g_loc g, g_prm g with
      | some r, [], _ :: ps => some (((List.range (ps.length + 1)).map (fun i => (i, i)), [], ps.length + 2, (ps.length + 1, .inl (0, 0)) :: z_en 1 ps, ((List.range r.2.2).filter (fun k => z_zf (FT ci k))).map (fun k => (0, ci, k, ps.length + 1)), [], [], [(0, ci)], (0, 0), 0), [])
      | _, _, _ => none)) none
/-- the ends that fit -/
def z_ret (TY : List zTy) (cl : List vw_C) (g : zSig) (ws : List Nat) (st : zS) (rid : Option Nat) : Bool :=
  Nat.beq (z_ph st) (g_ph g) && Nat.ble (z_C st).1 (g_mk g).1 && Nat.ble (z_C st).2 (g_mk g).2 &&
  (match z_gls TY cl (List.range (g_prm g).length) (g_loc g) st with
    | some (st2, fs) => (g_pst g).any (fun P => P.1.all (fun q => match z_get (z_V st2) q.1 with
        | some c => z_le c q.2 && Nat.blt q.1 (g_prm g).length
        | none => false) &&
      (match P.2.1, rid with
        | none, none => true
        | some c, some r => (match z_get (z_V st2) r with
          | some c' => z_le c' c
          | none => false)
        | _, _ => false) &&
      (match z_gls TY cl (List.range (g_prm g).length) P.2.2.2 st2 with
        | some (st3, ns) => (List.range P.2.2.2.length).all (fun i => match P.2.2.2[i]?, ns[i]? with
          | some q, some w => (match z_get (z_V st3) w with
            | some c => z_le c q.2
            | none => false)
          | _, _ => false)
        | none => false) &&
      (List.range (g_loc g).length).all (fun i => match P.2.2.1[i]?, ws[i]?, fs[i]? with
        | some h, some w0, some w => (match z_get (z_V st2) w with
          | some c => z_le c h.1
          | none => false) && (match h.2.1 with
          | some k => z_isi st2 w && z_isi st2 w0 && z_kx (z_R st2) w w0 k
          | none => true) && (match h.2.2 with
          | some k => z_isi st2 w && z_isi st2 w0 && z_kx (z_R st2) w0 w (-k)
          | none => true)
        | none, _, _ => true
        | _, _, _ => false))
    | none => false)
section ZENDS
variable {OB : Nat → Nat} {D : va_G} {DA : Nat → ClassId} {cl : List vw_C} {FT : Nat → Nat → FieldType} {TY : List zTy} {PHI : List (List Nat)} {sz : Nat} {raw : Option Nat} {pu : Bool} {T0 : zTp} {H0 : Heap} {env0 : List Value} {nL : Nat} {st st' : zS} {T : zTp} {H : Heap} {locs : List Loc} {env : List Value} {ls : Array Slot} {stk : List Value}
theorem z_ext_rf : z_ext st st := ⟨rfl, rfl, rfl, rfl, rfl, Nat.le_refl _⟩
theorem z_ext_tr {s1 s2 s3 : zS} (a : z_ext s1 s2) (b : z_ext s2 s3) : z_ext s1 s3 := by
  obtain ⟨a1, a2, a3, a4, a5, a6⟩ := a
  obtain ⟨b1, b2, b3, b4, b5, b6⟩ := b
  exact ⟨b1.trans a1, b2.trans a2, b3.trans a3, b4.trans a4, b5.trans a5, Nat.le_trans a6 b6⟩
theorem z_lv_app {d : Nat} {x : List Value} {q : zLoc} {v : Value} (h : z_lv D cl H (env[d]?) q v) : z_lv D cl H ((env ++ x)[d]?) q v := by
  obtain ⟨a, r, e1, e2⟩ := h
  exact ⟨a, r, z_app e1, e2⟩
theorem z_gls_ok {As : List Nat} : ∀ {L : List (zLoc × zV)} {st st' : zS} {env : List Value} {ws : List Nat}, z_gls TY cl As L st = some (st', ws) → z_sat OB D DA cl TY PHI sz raw pu T0 H0 env0 nL st T H locs env ls stk →
    ∃ x, z_sat OB D DA cl TY PHI sz raw pu T0 H0 env0 nL st' T H locs (env ++ x) ls stk ∧ z_ext st st' ∧ ws.length = L.length ∧ ∀ (i : Nat) (q : zLoc × zV) (w : Nat), L[i]? = some q → ws[i]? = some w → ∃ (v : Value) (d : Nat), (env ++ x)[w]? = some v ∧ As[q.1.1]? = some d ∧ z_lv D cl H ((env ++ x)[d]?) q.1 v
  | [], st, st', env, ws, h, hs => by
    cases h
    exact ⟨[], by rw [List.append_nil]; exact hs, z_ext_rf, rfl, fun i q w h1 => by simp at h1⟩
  | q :: r, st, st', env, ws, h, hs => by
    unfold z_gls at h
    split at h
    · rename_i d c hd hc
      cases hb : Nat.blt q.1.2.2.1 c.2.2 with
      | false => rw [hb] at h; cases h
      | true =>
        rw [hb] at h
        cases h1 : z_gl TY st d q.1 with
        | none => rw [h1] at h; cases h
        | some y =>
          obtain ⟨st1, w⟩ := y
          rw [h1] at h
          obtain ⟨x, v, g1, g2, g3, g4⟩ := z_gl_ok hc (z_blt hb) h1 hs
          cases h2 : z_gls TY cl As r st1 with
          | none => simp only [h2] at h; cases h
          | some z =>
            obtain ⟨st2, ws2⟩ := z
            simp only [h2] at h
            cases h
            obtain ⟨x2, k1, k2, k3, k4⟩ := z_gls_ok h2 g1
            refine ⟨x ++ x2, by rw [← List.append_assoc]; exact k1, z_ext_tr g2 k2, by simp [k3], fun i q2 w2 hi hw => ?_⟩
            cases i with
            | zero =>
              have e1 : q = q2 := by simpa using hi
              have e2 : w = w2 := by simpa using hw
              subst e1; subst e2
              exact ⟨v, d, by rw [← List.append_assoc]; exact z_app g3, hd, z_lv_app g4⟩
            | succ i =>
              obtain ⟨v2, d2, m1, m2, m3⟩ := k4 i q2 w2 (by simpa using hi) (by simpa using hw)
              exact ⟨v2, d2, by rw [← List.append_assoc]; exact m1, m2, by rw [← List.append_assoc]; exact m3⟩
    · cases h
end ZENDS
