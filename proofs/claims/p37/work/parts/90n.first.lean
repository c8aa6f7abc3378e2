/-! The first head: general types, names set to what stands in the fields of x and m. -/
def zu_headF (N : Int) (c : Nat × Nat) (t u : Nat) : zS := ([(0, 0), (1, 3), (2, 4), (3, 2)], [], 5, [(0, .inr (.inr 1)), (1, .inl (0, N)), (2, .inl (0, N)), (3, .inr (.inl t)), (4, .inr (.inl u))], [], [], [], [], c, 0)
def zu_lo (c : zV) : Bool := match c with
  | .inr (.inr (k + 1)) => Nat.blt k 10
  | _ => true
def zu_lot (ty : zTy) : Bool := match ty with
  | .inl o => o.2.all zu_lo
  | .inr q => q.2.2.all (fun g => zu_lo g.2)
/-- fields that get names -/
def zu_fx (fl flC : List zV) (NX : List (Nat × Nat)) (tA uA : Nat) : Bool := Nat.beq fl.length flC.length && (List.range fl.length).all (fun k => match fl[k]?, flC[k]? with
  | some c, some d => (match NX.find? (fun q => Nat.beq q.1 k) with
    | none => z_le c d && z_le d c && zu_ok tA uA c
    | some q => (match c, d with
      | .inr (.inr j), .inr (.inl u) => Nat.beq j (2000 + 500 * q.2 + u + 1) && Nat.blt u 500 && (!(Nat.beq u tA) && !(Nat.beq u uA))
      | _, _ => false))
  | _, _ => false)
section ZUFIRST
variable {OB OB2 : Nat → Nat} {D : va_G} {DA : Nat → ClassId} {cl : List vw_C} {TY : List zTy} {PHI : List (List Nat)} {sz : Nat} {T : zTp} {H0 H : Heap} {env0 env : List Value} {nL : Nat} {locs : List Loc} {ls : Array Slot} {stk : List Value} {tA uA tB uB : Nat}
theorem zu_lo_v {c : zV} {v : Value} (hag : ∀ n, n < 10 → OB2 n = OB n) (h : zu_lo c = true) (hv : z_v OB T c v) : z_v OB2 T c v := by
  match c, h, hv with
  | .inl r, _, hv => exact hv
  | .inr (.inl u), _, hv => exact hv
  | .inr (.inr 0), _, hv => exact hv
  | .inr (.inr (k + 1)), h, hv =>
    have hk : k < 10 := z_blt h
    have hb : Nat.blt k 2000 = true := Nat.ble_eq_true_of_le (by omega)
    obtain ⟨v1, -⟩ := (show zc_kn OB T k v from hv)
    rw [z_nm_of hb] at v1
    refine ⟨?_, fun h2 => by rw [hb] at h2; cases h2⟩
    rw [z_nm_of hb, hag k hk]
    exact v1
theorem zu_lo_c {q : Nat} {ty : zTy} (hag : ∀ n, n < 10 → OB2 n = OB n) (h : zu_lot ty = true) (hc : z_cell OB D DA cl T H q ty) : z_cell OB2 D DA cl T H q ty := by
  match ty, h, hc with
  | .inl (ci, fl), h, ⟨r, q1, q2, V, q3, q4⟩ => exact ⟨r, q1, q2, V, q3, fun k c hk => zu_lo_v hag (List.all_eq_true.mp h c (List.mem_of_getElem? hk)) (q4 k c hk)⟩
  | .inr o, h, ⟨n, f, z1, z2, z3, z4, z5⟩ => exact ⟨n, f, z1, z2, z3, z4, fun g hg j j1 j2 j3 => zu_lo_v hag (List.all_eq_true.mp h g hg) (z5 g hg j j1 j2 j3)⟩
theorem zu_slf {a t ci k : Nat} {fl : List zV} (hb : ∀ a t, T a = some t → ∃ ty, TY[t]? = some ty ∧ z_cell OB D DA cl T H a ty) (ha : T a = some t) (hty : TY[t]? = some (.inl (ci, fl))) (hc : fl[k]? = some (.inl (0, 0))) : z_sl H a (D.2 ci k) (.int (Int32.ofNat 0)) := by
  obtain ⟨r, v, h1, h2, h3, x, rfl, h4⟩ := zb_fld hb ha hty hc
  have : x = Int32.ofNat 0 := z_int0 (by have := h4.1; have := h4.2; omega)
  rw [← this]
  exact h3
theorem zu_slr {a t ci k u : Nat} {fl : List zV} (hb : ∀ a t, T a = some t → ∃ ty, TY[t]? = some ty ∧ z_cell OB D DA cl T H a ty) (ha : T a = some t) (hty : TY[t]? = some (.inl (ci, fl))) (hc : fl[k]? = some (.inr (.inl u))) : ∃ b, z_sl H a (D.2 ci k) (.ref b) ∧ T b = some u := by
  obtain ⟨r, v, h1, h2, h3, b, rfl, h4⟩ := zb_fld hb ha hty hc
  exact ⟨b, h3, h4⟩
theorem zu_sla {a t k n : Nat} {ek : Nat} {sg : List ((Nat × Nat) × zV)} (hb : ∀ a t, T a = some t → ∃ ty, TY[t]? = some ty ∧ z_cell OB D DA cl T H a ty) (ha : T a = some t) (hty : TY[t]? = some (.inr (ek, (n, n), sg))) (hk : k < n) (hc : sg.any (fun g => Nat.ble g.1.1 k && Nat.ble k g.1.2 && (match g.2 with
    | .inl r => z_ile 0 r.1 && z_ile r.2 0
    | .inr _ => false)) = true) : z_sl H a k (.int (Int32.ofNat 0)) := by
  obtain ⟨ty, y1, y2⟩ := hb a t ha
  rw [hty] at y1
  cases y1
  obtain ⟨m, f, z1, z2, z3, z4, z5⟩ := y2
  have z2 : n ≤ m := z2
  obtain ⟨g, hg, h2⟩ := List.any_eq_true.mp hc
  rw [Bool.and_eq_true, Bool.and_eq_true] at h2
  obtain ⟨⟨h3, h4⟩, h5⟩ := h2
  have hv := z5 g hg k (by omega) (Nat.le_of_ble_eq_true h3) (Nat.le_of_ble_eq_true h4)
  refine ⟨_, z1, rfl, ?_⟩
  rw [arrV_read _ _ (by omega)]
  cases hgv : g.2 with
  | inr u => rw [hgv] at h5; cases h5
  | inl r =>
    rw [hgv] at h5 hv
    rw [Bool.and_eq_true] at h5
    obtain ⟨x, e, x1, x2⟩ := hv
    have a1 := z_ile_ok h5.1
    have a2 := z_ile_ok h5.2
    have : x = Int32.ofNat 0 := z_int0 (by omega)
    rw [e, this]
theorem zu_old2 {q t ciA ciU : Nat} {flA flB flU flV : List zV} (h15 : T (OB 15) = some tA) (h16 : T (OB 16) = some uA) (eA : TY[tA]? = some (.inl (ciA, flA))) (eB : TY[tB]? = some (.inl (ciA, flB))) (eU : TY[uA]? = some (.inl (ciU, flU))) (eV : TY[uB]? = some (.inl (ciU, flV))) (h : zu_T2 T (OB 15) (OB 16) tB uB q = some t) : ∃ t0, T q = some t0 ∧ ∀ ci fl, TY[t]? = some (.inl (ci, fl)) → ∃ fl0, TY[t0]? = some (.inl (ci, fl0)) := by
  by_cases e : q = OB 15
  · subst e
    rw [zu_T2_a] at h
    cases h
    refine ⟨tA, h15, fun ci fl hh => ?_⟩
    rw [eB] at hh
    cases hh
    exact ⟨flA, eA⟩
  · by_cases e2 : q = OB 16
    · subst e2
      rw [zu_T2_b e] at h
      cases h
      refine ⟨uA, h16, fun ci fl hh => ?_⟩
      rw [eV] at hh
      cases hh
      exact ⟨flU, eU⟩
    · rw [zu_T2_n e e2] at h
      exact ⟨t, h, fun ci fl hh => ⟨fl, hh⟩⟩
/-- a cell whose fields get names -/
theorem zu_fx_ok {a ci t0 : Nat} {fl flC : List zV} {NX : List (Nat × Nat)} (h15 : T (OB 15) = some tA) (h16 : T (OB 16) = some uA) (ha : T a = some t0) (e0 : TY[t0]? = some (.inl (ci, flC))) (h : zu_fx fl flC NX tA uA = true) (hb : ∀ a t, T a = some t → ∃ ty, TY[t]? = some ty ∧ z_cell OB D DA cl T H a ty) (hN : ∀ q ∈ NX, z_sl H a (D.2 ci q.1) (.ref (OB q.2))) : z_cell OB D DA cl (zu_T2 T (OB 15) (OB 16) tB uB) H a (.inl (ci, fl)) := by
  obtain ⟨ty, y1, y2⟩ := hb a t0 ha
  rw [e0] at y1
  cases y1
  obtain ⟨r, q1, q2, V, ⟨cell, q3, q3b, q3c, q4⟩, q5⟩ := y2
  unfold zu_fx at h
  rw [Bool.and_eq_true] at h
  have el : fl.length = flC.length := z_beq h.1
  refine ⟨r, q1, el.trans q2, V, ⟨cell, q3, q3b, q3c, q4⟩, fun k c hk => ?_⟩
  have hk : fl[k]? = some c := hk
  have hlt : k < fl.length := (List.getElem?_eq_some_iff.mp hk).1
  have h2 := List.all_eq_true.mp h.2 k (List.mem_range.mpr hlt)
  obtain ⟨d, hd⟩ : ∃ d, flC[k]? = some d := ⟨_, List.getElem?_eq_getElem (l := flC) (i := k) (by omega)⟩
  have hv := q5 k d hd
  cases hf : NX.find? (fun q => Nat.beq q.1 k) with
  | none =>
    simp only [hk, hd, hf] at h2
    rw [Bool.and_eq_true, Bool.and_eq_true] at h2
    exact zu_v (fun _ _ => rfl) h15 h16 h2.2 (z_le_ok h2.1.2 hv)
  | some q =>
    simp only [hk, hd, hf] at h2
    match c, d, h2, hv with
    | .inl _, _, h2, _ => cases h2
    | .inr (.inl _), _, h2, _ => cases h2
    | .inr (.inr _), .inl _, h2, _ => cases h2
    | .inr (.inr _), .inr (.inr _), h2, _ => cases h2
    | .inr (.inr j), .inr (.inl u), h2, hv =>
      have h2 : (Nat.beq j (2000 + 500 * q.2 + u + 1) && Nat.blt u 500 && (!(Nat.beq u tA) && !(Nat.beq u uA))) = true := h2
      rw [Bool.and_eq_true, Bool.and_eq_true, Bool.and_eq_true] at h2
      obtain ⟨⟨h3, h4⟩, h5, h6⟩ := h2
      rw [z_beq h3]
      obtain ⟨b, hb1, hb2⟩ := hv
      have hq0 := List.find?_some hf
      have hqk : q.1 = k := z_beq hq0
      have hs := hN q (List.mem_of_find?_eq_some hf)
      rw [hqk] at hs
      have q2' : flC.length = r.2.2 := q2
      have hVk : V k = .ref (OB q.2) := zj_fun ⟨cell, q3, q3c, q4 k (by omega)⟩ hs
      have eb : b = OB q.2 := by rw [hb1] at hVk; exact Value.ref.inj hVk
      subst eb
      exact z_zn_v (z_blt h4) hb1 (zu_T2_k h15 h16 hb2 (zu_nb h5) (zu_nb h6))
end ZUFIRST
