/-! Returns. -/
section ZRETURN
variable {p : Program} {l : Launch} {e : Env} {R : Room} {s : State} {m : MethodId} {below : List Frame} {meth : Method} {c : Code} {cc : ByteArray} {pc : Nat}
variable {OB : Nat → Nat} {D : va_G} {DA : Nat → ClassId} {cl : List vw_C} {FT : Nat → Nat → FieldType} {TY : List zTy} {PHI : List (List Nat)} {sz : Nat} {raw : Option Nat} {pu : Bool} {T0 : zTp} {H0 : Heap} {env0 : List Value} {nL : Nat} {st st' : zS} {T : zTp} {H : Heap} {locs : List Loc} {env : List Value} {ls : Array Slot} {stk : List Value} {g : zSig} {vals : List Value} {ws : List Nat}
/-- what is known of the entry -/
def z_Ent (D : va_G) (cl : List vw_C) (g : zSig) (raw : Option Nat) (pu : Bool) (H0 : Heap) (env0 : List Value) (vals : List Value) (ws : List Nat) : Prop :=
  (∀ q, raw = some q ↔ ((g_raw g).isSome = true ∧ vals[0]? = some (.ref q))) ∧ (g_pur g = true → pu = true) ∧ vals.length = (g_prm g).length ∧ (∀ (j : Nat) (v : Value), vals[j]? = some v → env0[j]? = some v) ∧
  ws.length = (g_loc g).length ∧ (∀ (i : Nat) (q : zLoc × zV) (w : Nat), (g_loc g)[i]? = some q → ws[i]? = some w → ∃ v : Value, env0[w]? = some v ∧ z_lv D cl H0 (vals[q.1.1]?) q.1 v)
theorem z_kn_int {x y : Nat} {n : Int} (h : (z_isi st x && z_isi st y && z_kx (z_R st) x y n) = true) (hs : z_sat OB D DA cl TY PHI sz raw pu T0 H0 env0 nL st T H locs env ls stk) : ∃ vx vy : Int32, env[x]? = some (.int vx) ∧ env[y]? = some (.int vy) ∧ vy.toInt + n ≤ vx.toInt := by
  simp only [Bool.and_eq_true] at h
  obtain ⟨vx, e1⟩ := z_isi_ok h.1.1 hs
  obtain ⟨vy, e2⟩ := z_isi_ok h.1.2 hs
  exact ⟨vx, vy, e1, e2, z_kx_ok hs.2.2.2.2.2.2.2.1 e1 e2 h.2⟩
theorem z_ret_ok {rid : Option Nat} {v : Option Value} (hE : z_Ent D cl g raw pu s.heap env0 vals ws) (h : z_ret TY cl g ws st rid = true) (hs : z_sat OB D DA cl TY PHI sz raw pu T0 s.heap env0 nL st T H locs env ls stk) (hv : match rid, v with | none, none => True | some r, some x => env[r]? = some x | _, _ => False) {t : State} (ht : t.heap = H) :
    (z_C st).1 ≤ (g_mk g).1 ∧ (z_C st).2 ≤ (g_mk g).2 ∧ z_Post OB D DA cl TY PHI sz g T0 vals.toArray s (.returned v) t := by
  obtain ⟨hraw, hpur, hlen, hvals, hwl, hws⟩ := hE
  unfold z_ret at h
  simp only [Bool.and_eq_true] at h
  obtain ⟨⟨⟨hph, hc1⟩, hc2⟩, h⟩ := h
  refine ⟨Nat.le_of_ble_eq_true hc1, Nat.le_of_ble_eq_true hc2, ?_⟩
  split at h
  · rename_i st2 fs hgl
    obtain ⟨x, g1, g2, g3, g4⟩ := z_gls_ok hgl hs
    obtain ⟨m1, ⟨m2, m3, mf⟩, m4, m5, m6⟩ := hs.2.2.2.2.2.2.2.2.2
    rw [z_beq hph] at m4
    obtain ⟨w0, hw0⟩ := hs.2.1
    have hx0 : ∀ (j : Nat) (v : Value), vals[j]? = some v → (env ++ x)[j]? = some v := fun j v hj => z_app (by rw [hw0]; exact z_app (hvals j v hj))
    have hget : ∀ (w : Nat) (v : Value), env0[w]? = some v → (env ++ x)[w]? = some v := fun w v hw => z_app (by rw [hw0]; exact z_app hw)
    obtain ⟨P, hP, hP2⟩ := List.any_eq_true.mp h
    simp only [Bool.and_eq_true] at hP2
    obtain ⟨⟨⟨hA, hR⟩, hN⟩, hL⟩ := hP2
    subst ht
    refine ⟨vals, v, T, rfl, rfl, m1, m2, m4, fun q hq1 hq2 hq3 => m5 q hq1 hq2 (fun hr => ?_), m6.1, fun q hq1 hq2 => m6.2.1 q hq1 hq2, ⟨fun hp => ?_, mf⟩, P, hP, fun q hq => ?_, ?_, fun q hq => ?_, fun i q hh hi hh2 => ?_⟩
    · obtain ⟨y1, y2⟩ := (hraw q).mp hr
      exact hq3 y1 y2
    · obtain ⟨y1, y2⟩ := m3 (hpur hp)
      exact ⟨y1, y2⟩
    · have h1 := List.all_eq_true.mp hA q hq
      split at h1
      · rename_i c0 hc0
        rw [Bool.and_eq_true] at h1
        obtain ⟨w, e1, e2⟩ := z_get_ok g1.2.2.2.2.1 hc0
        have hlt : q.1 < vals.length := by rw [hlen]; exact z_blt h1.2
        have hg := List.getElem?_eq_getElem hlt
        have := hx0 _ _ hg
        rw [e1] at this
        cases this
        exact ⟨_, hg, z_le_ok h1.1 e2⟩
      · cases h1
    · cases hp2 : P.2.1 with
      | none =>
        rw [hp2] at hR
        cases rid with
        | none =>
          cases v with
          | none => trivial
          | some x => exact hv
        | some r => cases hR
      | some c0 =>
        rw [hp2] at hR
        cases rid with
        | none => cases hR
        | some r =>
          cases v with
          | none => exact hv
          | some x2 =>
            have hR : (match z_get (z_V st2) r with
              | some c' => z_le c' c0
              | none => false) = true := hR
            split at hR
            · rename_i c2 hc2
              obtain ⟨w, e1, e2⟩ := z_get_ok g1.2.2.2.2.1 hc2
              have hv : env[r]? = some x2 := hv
              rw [z_app hv] at e1
              cases e1
              exact z_le_ok hR e2
            · cases hR
    · split at hN
      · rename_i st3 ns hgn
        obtain ⟨x3, k1, k2, k3, k4⟩ := z_gls_ok hgn g1
        obtain ⟨i, hi⟩ := List.getElem?_of_mem hq
        have hlt : i < P.2.2.2.length := (List.getElem?_eq_some_iff.mp hi).1
        have h1 := List.all_eq_true.mp hN i (List.mem_range.mpr hlt)
        have hni := List.getElem?_eq_getElem (show i < ns.length by omega)
        rw [hi, hni] at h1
        obtain ⟨v1, d, z1, z2, z3⟩ := k4 i q _ hi hni
        obtain ⟨hd1, hd2⟩ := List.getElem?_eq_some_iff.mp z2
        have hd3 : d = q.1.1 := by simpa using hd2.symm
        have hlt2 : q.1.1 < vals.length := by rw [hlen]; simpa using hd1
        have hg2 := List.getElem?_eq_getElem hlt2
        rw [hd3, z_app (hx0 _ _ hg2), ← hg2] at z3
        refine ⟨v1, z3, ?_⟩
        have h1 : (match z_get (z_V st3) ns[i] with
          | some c => z_le c q.2
          | none => false) = true := h1
        split at h1
        · rename_i c0 hc0
          obtain ⟨w, e1, e2⟩ := z_get_ok k1.2.2.2.2.1 hc0
          rw [z1] at e1
          cases e1
          exact z_le_ok h1 e2
        · cases h1
      · cases hN
    · have hlt : i < (g_loc g).length := (List.getElem?_eq_some_iff.mp hi).1
      have h1 := List.all_eq_true.mp hL i (List.mem_range.mpr hlt)
      have hwi := List.getElem?_eq_getElem (show i < ws.length by omega)
      have hfi := List.getElem?_eq_getElem (show i < fs.length by omega)
      rw [hh2, hwi, hfi] at h1
      simp only [Bool.and_eq_true] at h1
      obtain ⟨⟨h2, h3⟩, h4⟩ := h1
      obtain ⟨v0, y1, y2⟩ := hws i q _ hi hwi
      obtain ⟨v1, d, z1, z2, z3⟩ := g4 i q _ hi hfi
      obtain ⟨hd1, hd2⟩ := List.getElem?_eq_some_iff.mp z2
      have hd3 : d = q.1.1 := by simpa using hd2.symm
      have hlt2 : q.1.1 < vals.length := by rw [hlen]; simpa using hd1
      have hg2 := List.getElem?_eq_getElem hlt2
      rw [hd3, hx0 _ _ hg2, ← hg2] at z3
      refine ⟨v0, v1, y2, z3, ?_, fun k hk => ?_, fun k hk => ?_⟩
      · split at h2
        · rename_i c0 hc0
          obtain ⟨w, e1, e2⟩ := z_get_ok g1.2.2.2.2.1 hc0
          rw [z1] at e1
          cases e1
          exact z_le_ok h2 e2
        · cases h2
      · rw [hk] at h3
        obtain ⟨vx, vy, n1, n2, n3⟩ := z_kn_int h3 g1
        rw [z1] at n1
        rw [hget _ _ y1] at n2
        cases n1; cases n2
        exact ⟨vy, vx, rfl, rfl, n3⟩
      · rw [hk] at h4
        simp only [Bool.and_eq_true] at h4
        have h5 : (z_isi st2 ws[i] && z_isi st2 fs[i] && z_kx (z_R st2) ws[i] fs[i] (-k)) = true := by
          simp only [Bool.and_eq_true]
          exact ⟨⟨h4.1.2, h4.1.1⟩, h4.2⟩
        obtain ⟨vx, vy, n1, n2, n3⟩ := z_kn_int h5 g1
        rw [z1] at n2
        rw [hget _ _ y1] at n1
        cases n1; cases n2
        exact ⟨vx, vy, rfl, rfl, by omega⟩
  · cases h
/-- a return with an answer -/
def z_iret (TY : List zTy) (cl : List vw_C) (g : zSig) (ws : List Nat) (ret : Option FieldType) (st : zS) : Bool := match z_S st, ret with
  | [r], some .int => z_isi st r && z_ret TY cl g ws st (some r)
  | [r], some .boolean => (match z_get (z_V st) r with
    | some (.inl a) => z_ile 0 a.1 && z_ile a.2 1
    | _ => false) && z_ret TY cl g ws st (some r)
  | _, _ => false
theorem z_r_vret {good : Nat → zS → Prop} (hg : z_Good p l e R s m vals.toArray below meth c (MQ below (z_Post OB D DA cl TY PHI sz g T0) vals.toArray s (g_mk g).1 (g_mk g).2 (fun q => sz ≤ q)) OB D DA cl TY PHI sz raw pu T0 s.heap env0 nL good) (hx : p.tables.exec = Jvm.exec) (hb : c.code = cc) (hr : meth.sig.returnType = none) (hlocks : meth.locks = false) (hE : z_Ent D cl g raw pu s.heap env0 vals ws) (hd : decode cc pc = .ok (.return_, 1)) (hS : z_S st = []) (h : z_ret TY cl g ws st none = true) : good pc st := by
  refine (hg _ _).mpr fun T H locs env ls stk hs => ?_
  have hk := hs.2.2.2.1
  rw [hS] at hk
  have hk : stk = [] := hk
  subst hk
  obtain ⟨c1, c2, -⟩ := z_ret_ok (v := none) (t := { s with heap := H }) hE h hs trivial rfl
  refine W.widen c1 c2 (W.vret hx hb hr (fun t ht _ => (z_ret_ok (v := none) hE h hs trivial ht).2.2) (fun q hq => ?_) hd hlocks)
  exact hs.2.2.2.2.2.2.2.2.2.2.2.2.2.2.2 q hq
theorem z_r_iret {good : Nat → zS → Prop} {ret : Option FieldType} (hg : z_Good p l e R s m vals.toArray below meth c (MQ below (z_Post OB D DA cl TY PHI sz g T0) vals.toArray s (g_mk g).1 (g_mk g).2 (fun q => sz ≤ q)) OB D DA cl TY PHI sz raw pu T0 s.heap env0 nL good) (hx : p.tables.exec = Jvm.exec) (hb : c.code = cc) (hr : meth.sig.returnType = ret) (hlocks : meth.locks = false) (hE : z_Ent D cl g raw pu s.heap env0 vals ws) (hd : decode cc pc = .ok (.ireturn, 1)) (h : z_iret TY cl g ws ret st = true) : good pc st := by
  refine (hg _ _).mpr fun T H locs env ls stk hs => ?_
  unfold z_iret at h
  split at h
  · rename_i r hS
    rw [Bool.and_eq_true] at h
    obtain ⟨v, k, rfl, e1, hk⟩ := z_stk_cons hS hs.2.2.2.1
    have hk : k = [] := hk
    subst hk
    obtain ⟨x, e2⟩ := z_isi_ok h.1 hs
    rw [e1] at e2
    cases e2
    obtain ⟨c1, c2, -⟩ := z_ret_ok (v := some (.int x)) (t := { s with heap := H }) hE h.2 hs e1 rfl
    refine W.widen c1 c2 (W.iret hx hb hr (fun t ht _ => (z_ret_ok (v := some (.int x)) hE h.2 hs e1 ht).2.2) (fun q hq => ?_) hd hlocks)
    exact hs.2.2.2.2.2.2.2.2.2.2.2.2.2.2.2 q hq
  · rename_i r hS
    rw [Bool.and_eq_true] at h
    obtain ⟨v, k, rfl, e1, hk⟩ := z_stk_cons hS hs.2.2.2.1
    have hk : k = [] := hk
    subst hk
    obtain ⟨h1, h2⟩ := h
    split at h1
    · rename_i a ha
      rw [Bool.and_eq_true] at h1
      obtain ⟨w, e2, hw⟩ := z_get_ok hs.2.2.2.2.1 ha
      rw [e1] at e2
      cases e2
      obtain ⟨hn, -⟩ := z_fit_ok (ty := .boolean) (c := .inl a) (by unfold z_fit; rw [Bool.and_eq_true]; exact h1) hw
      obtain ⟨x, rfl, -⟩ := hw
      obtain ⟨c1, c2, -⟩ := z_ret_ok (v := some (.int x)) (t := { s with heap := H }) hE h2 hs e1 rfl
      refine W.widen c1 c2 (W.zret hx hb hr hn (fun t ht _ => (z_ret_ok (v := some (.int x)) hE h2 hs e1 ht).2.2) (fun q hq => ?_) hd hlocks)
      exact hs.2.2.2.2.2.2.2.2.2.2.2.2.2.2.2 q hq
    · cases h1
  · cases h
end ZRETURN
