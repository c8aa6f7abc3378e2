/-! Constructors of objects of a law's class: run as if no typed cell were there; what they make gets its types at the end. -/
theorem zb_cell_kept {OB : Nat → Nat} {D : va_G} {DA : Nat → ClassId} {cl : List vw_C} {T : zTp} {H H1 : Heap} {a : Nat} {ty : zTy} (h : z_cell OB D DA cl T H a ty) (e : H1[a]? = H[a]?) : z_cell OB D DA cl T H1 a ty := by
  match ty, h with
  | .inl o, ⟨r, q1, q2, V, q3, q4⟩ => exact ⟨r, q1, q2, V, q3.kept e, q4⟩
  | .inr o, ⟨n, f, z1, z2⟩ => exact ⟨n, f, by rw [e]; exact z1, z2⟩
def zc_seg (o q : Nat × (Nat × Nat) × List ((Nat × Nat) × zV)) : Bool := Nat.beq o.1 q.1 && (Nat.ble q.2.1.1 o.2.1.1 && Nat.ble o.2.1.2 q.2.1.2) && q.2.2.all (fun g => o.2.2.any (fun h => Nat.ble h.1.1 g.1.1 && Nat.ble g.1.2 h.1.2 && (match h.2, g.2 with
  | .inl r, .inl w => z_ile w.1 r.1 && z_ile r.2 w.2
  | .inr (.inr 0), .inr (.inr 0) => true
  | _, _ => false)))
def zc_map (f : List (Nat × Nat)) (u : Nat) : Nat := match f.find? (fun q => Nat.beq q.1 u) with
  | some q => q.2
  | none => u
def zc_okf (TY : List zTy) (f : List (Nat × Nat)) : Bool := (List.range TY.length).all (fun u => match TY[u]? with
  | some (.inr o) => (match TY[zc_map f u]? with
    | some (.inr q) => zc_seg o q
    | _ => false)
  | _ => true)
/-- what a field of the new object holds -/
def zc_fv (st : zS) (ci k : Nat) : Option zV := match z_ffind st 0 ci k with
  | some w => z_get (z_V st) w
  | none => none
def zc_fld (TY : List zTy) (f : List (Nat × Nat)) (st : zS) (ci k : Nat) (c : zV) : Bool := match zc_fv st ci k with
  | some (.inl r) => (match c with
    | .inl q => z_ile q.1 r.1 && z_ile r.2 q.2
    | _ => false)
  | some (.inr (.inl u)) => (match TY[u]? with
    | some (.inr _) => (match c with
      | .inr (.inl t) => Nat.beq t (zc_map f u)
      | _ => false)
    | _ => false)
  | _ => false
def zc_a0 (TY : List zTy) (st : zS) (ci k : Nat) : Bool := match zc_fv st ci k with
  | some (.inr (.inl u)) => (match TY[u]? with
    | some (.inr q) => Nat.beq q.1 0
    | _ => false)
  | _ => false
def zc_zr (TY : List zTy) (st : zS) (ci k : Nat) : Bool := match zc_fv st ci k with
  | some (.inr (.inl u)) => (match TY[u]? with
    | some (.inr q) => Nat.beq q.1 0 && Nat.ble 200 q.2.1.1 && q.2.2.any (fun g => Nat.beq g.1.1 0 && Nat.ble 199 g.1.2 && (match g.2 with
      | .inl r => z_ile 0 r.1 && z_ile r.2 0
      | _ => false))
    | _ => false)
  | _ => false
def zc_c0 (st : zS) (ci k : Nat) : Bool := match zc_fv st ci k with
  | some (.inl r) => z_ile 0 r.1 && z_ile r.2 0
  | _ => false
def zc_J (TY : List zTy) (st : zS) (ci : Nat) : Bool := (!(Nat.beq ci 12) || (zc_c0 st 12 13 && (zc_a0 TY st 12 20 && zc_a0 TY st 12 22 && (zc_a0 TY st 12 23 && zc_a0 TY st 12 24)))) && (!(Nat.beq ci 4) || (zc_zr TY st 4 0 && zc_zr TY st 4 1))
def zc_fin (TY : List zTy) (cl : List vw_C) (f : List (Nat × Nat)) (ci tau : Nat) (mk : Nat × Nat) (st : zS) : Bool :=
  ((z_S st).isEmpty && (Nat.ble (z_C st).1 mk.1 && Nat.ble (z_C st).2 mk.2)) && ((z_X st).any (fun q => Nat.beq q.1 0 && Nat.beq q.2 ci) && zc_J TY st ci) && (match TY[tau]?, cl[ci]? with
    | some (.inl o), some r => Nat.beq o.1 ci && Nat.beq o.2.length r.2.2 && (List.range o.2.length).all (fun k => match o.2[k]? with
      | some c => zc_fld TY f st ci k c
      | none => false)
    | _, _ => false)
section ZCONS
variable {OB : Nat → Nat} {D : va_G} {DA : Nat → ClassId} {cl : List vw_C} {FT : Nat → Nat → FieldType} {TY : List zTy} {PHI : List (List Nat)} {sz : Nat} {raw : Option Nat} {pu : Bool} {T0 T : zTp} {H0 H : Heap} {env0 env : List Value} {nL : Nat} {st : zS} {locs : List Loc} {ls : Array Slot} {stk : List Value}
/-- the types at the end -/
def zc_T (TY : List zTy) (f : List (Nat × Nat)) (a tau : Nat) (T0 T : zTp) : zTp := fun q => if q = a then some tau else match T0 q with
  | some t => some t
  | none => (match T q with
    | some u => (match TY[u]? with
      | some (.inr _) => some (zc_map f u)
      | _ => none)
    | none => none)
theorem zc_T_at {f : List (Nat × Nat)} {a tau : Nat} : zc_T TY f a tau T0 T a = some tau := by unfold zc_T; rw [if_pos rfl]
theorem zc_T_old {f : List (Nat × Nat)} {a tau q t : Nat} (h : q ≠ a) (ht : T0 q = some t) : zc_T TY f a tau T0 T q = some t := by
  unfold zc_T; rw [if_neg h, ht]
theorem zc_T_new {f : List (Nat × Nat)} {a tau q u : Nat} {o : Nat × (Nat × Nat) × List ((Nat × Nat) × zV)} (h : q ≠ a) (h0 : T0 q = none) (ht : T q = some u) (hu : TY[u]? = some (.inr o)) : zc_T TY f a tau T0 T q = some (zc_map f u) := by
  unfold zc_T; rw [if_neg h, h0, ht]
  show (match TY[u]? with
      | some (.inr _) => some (zc_map f u)
      | _ => none) = _
  rw [hu]
theorem zc_T_inv {f : List (Nat × Nat)} {a tau q t : Nat} (h : zc_T TY f a tau T0 T q = some t) : (q = a ∧ t = tau) ∨ (q ≠ a ∧ T0 q = some t) ∨ (q ≠ a ∧ T0 q = none ∧ ∃ u o, T q = some u ∧ TY[u]? = some (.inr o) ∧ t = zc_map f u) := by
  unfold zc_T at h
  by_cases e : q = a
  · rw [if_pos e] at h
    exact Or.inl ⟨e, (Option.some.inj h).symm⟩
  · rw [if_neg e] at h
    split at h
    · rename_i t0 ht0
      exact Or.inr (Or.inl ⟨e, ht0.trans h⟩)
    · rename_i ht0
      split at h
      · rename_i u hu
        split at h
        · rename_i o ho
          exact Or.inr (Or.inr ⟨e, ht0, u, o, hu, ho, (Option.some.inj h).symm⟩)
        · cases h
      · cases h
theorem zc_fv_ok {ci k : Nat} {c : zV} (h : zc_fv st ci k = some c) (hs : z_sat OB D DA cl TY PHI sz raw pu T0 H0 env0 nL st T H locs env ls stk) : ∃ (a : Nat) (v : Value), env[0]? = some (.ref a) ∧ z_sl H a (D.2 ci k) v ∧ z_v OB T c v := by
  unfold zc_fv at h
  split at h
  · rename_i w hw
    obtain ⟨a, v, e1, e2, e3⟩ := z_ffind_ok hw hs
    obtain ⟨v2, e4, e5⟩ := z_get_ok hs.2.2.2.2.1 h
    rw [e2] at e4
    cases e4
    exact ⟨a, v, e1, e3, e5⟩
  · cases h
theorem zc_fld_ok {f : List (Nat × Nat)} {ci k : Nat} {c : zV} (h : zc_fld TY f st ci k c = true) : (∃ r q, zc_fv st ci k = some (.inl r) ∧ c = .inl q ∧ z_ile q.1 r.1 = true ∧ z_ile r.2 q.2 = true) ∨ (∃ u o, zc_fv st ci k = some (.inr (.inl u)) ∧ TY[u]? = some (.inr o) ∧ c = .inr (.inl (zc_map f u))) := by
  unfold zc_fld at h
  split at h
  · rename_i r hr
    split at h
    · rename_i q
      rw [Bool.and_eq_true] at h
      exact Or.inl ⟨r, q, hr, rfl, h.1, h.2⟩
    · cases h
  · rename_i u hu
    split at h
    · rename_i o ho
      split at h
      · rename_i t
        have et : t = zc_map f u := z_beq h
        subst et
        exact Or.inr ⟨u, o, hu, ho, rfl⟩
      · cases h
    · cases h
  · cases h
/-- the run's cells: new ones -/
theorem zc_new {a q u : Nat} (hs : z_sat OB D DA cl TY PHI sz (some a) false (fun _ => none) H0 env0 nL st T H locs env ls stk) (hTa : T a = none) (h : T q = some u) : H0.size ≤ q ∧ q ≠ a := by
  have hm := hs.2.2.2.2.2.2.2.2.2.2.2.2.1
  refine ⟨?_, fun e => by rw [e, hTa] at h; cases h⟩
  rcases Nat.lt_or_ge q H0.size with lt | ge
  · have := (hm q lt rfl (fun e => by cases e; rw [hTa] at h; cases h)).1
    rw [this] at h
    cases h
  · exact ge
theorem zc_arr {f : List (Nat × Nat)} {q u : Nat} {o : Nat × (Nat × Nat) × List ((Nat × Nat) × zV)} {T2 : zTp} (hf : zc_okf TY f = true) (hu : TY[u]? = some (.inr o)) (hc : z_cell OB D DA cl T H q (.inr o)) : ∃ o2, TY[zc_map f u]? = some (.inr o2) ∧ z_cell OB D DA cl T2 H q (.inr o2) := by
  have h1 := List.all_eq_true.mp hf u (List.mem_range.mpr (List.getElem?_eq_some_iff.mp hu).1)
  rw [hu] at h1
  simp only at h1
  split at h1
  · rename_i o2 ho2
    refine ⟨o2, ho2, ?_⟩
    unfold zc_seg at h1
    simp only [Bool.and_eq_true] at h1
    obtain ⟨⟨e1, e2, e3⟩, e4⟩ := h1
    obtain ⟨n, g, z1, z2, z3, z4, z5⟩ := hc
    have l2 := Nat.le_of_ble_eq_true e2
    have l3 := Nat.le_of_ble_eq_true e3
    refine ⟨n, g, by rw [← z_beq e1]; exact z1, by omega, by omega, z4, fun s hs j j1 j2 j3 => ?_⟩
    obtain ⟨s2, k1, k2⟩ := List.any_eq_true.mp (List.all_eq_true.mp e4 s hs)
    simp only [Bool.and_eq_true] at k2
    obtain ⟨⟨k3, k4⟩, k5⟩ := k2
    have m3 := Nat.le_of_ble_eq_true k3
    have m4 := Nat.le_of_ble_eq_true k4
    have hv := z5 s2 k1 j j1 (by omega) (by omega)
    split at k5
    · rename_i r w hr hw
      rw [hr] at hv
      rw [hw]
      rw [Bool.and_eq_true] at k5
      obtain ⟨x, ex, hx⟩ := hv
      exact ⟨x, ex, z_in_le (z_ile_ok k5.1) (z_ile_ok k5.2) hx⟩
    · rename_i hr hw
      rw [hr] at hv
      rw [hw]
      exact hv
    · cases k5
  · cases h1
/-- the heap at the end is typed -/
theorem zc_ht {f : List (Nat × Nat)} {a tau ci : Nat} {T1 : zTp} {mk : Nat × Nat} (hf : zc_okf TY f = true) (h0 : z_ht OB D DA cl TY T1 H0) (hTa1 : T1 a = none) (hs : z_sat OB D DA cl TY PHI sz (some a) false (fun _ => none) H0 env0 nL st T H locs env ls stk) (he : env[0]? = some (.ref a)) (hfin : zc_fin TY cl f ci tau mk st = true) : z_ht OB D DA cl TY (zc_T TY f a tau T1 T) H := by
  unfold zc_fin at hfin
  simp only [Bool.and_eq_true] at hfin
  obtain ⟨⟨-, hX, hJ⟩, hF⟩ := hfin
  obtain ⟨q0, hq0, hq1⟩ := List.any_eq_true.mp hX
  rw [Bool.and_eq_true] at hq1
  obtain ⟨a2, x1, x2, x3, r, V, x4, x5⟩ := z_fx_in hs.2.2.2.2.2.2.2.2.1 q0 hq0
  rw [z_beq hq1.1, he] at x1
  have ea : a = a2 := by cases x1; rfl
  subst ea
  have eci : q0.2 = ci := z_beq hq1.2
  rw [eci] at x4 x5
  have hm := hs.2.2.2.2.2.2.2.2.2
  have old : ∀ q t, T1 q = some t → q ≠ a ∧ H[q]? = H0[q]? ∧ q < H0.size := by
    intro q t ht
    obtain ⟨ty, y1, y2⟩ := h0.1 q t ht
    have lt := z_cell_lt y2
    have hne : q ≠ a := fun e => by rw [e, hTa1] at ht; cases ht
    exact ⟨hne, (hm.2.2.2.1 q lt rfl (fun e => by cases e; exact hne rfl)).2, lt⟩
  have new : ∀ q u, T q = some u → H0.size ≤ q ∧ q ≠ a ∧ T1 q = none := by
    intro q u hu
    obtain ⟨n1, n2⟩ := zc_new hs x2 hu
    refine ⟨n1, n2, ?_⟩
    cases hT : T1 q with
    | none => rfl
    | some t => have := (old q t hT).2.2; omega
  have fv : ∀ {k : Nat} {c : zV}, zc_fv st ci k = some c → ∃ v, z_sl H a (D.2 ci k) v ∧ z_v OB T c v := by
    intro k c hc
    obtain ⟨a3, v, e1, e2, e3⟩ := zc_fv_ok hc hs
    rw [he] at e1
    have : a = a3 := by cases e1; rfl
    subst this
    exact ⟨v, e2, e3⟩
  split at hF
  · rename_i o r2 ho hr2
    rw [x4] at hr2
    cases hr2
    obtain ⟨oc, fl⟩ := o
    rw [Bool.and_eq_true, Bool.and_eq_true] at hF
    obtain ⟨⟨f1, f2⟩, f3⟩ := hF
    have eoc : oc = ci := z_beq f1
    subst eoc
    have hcell : z_cell OB D DA cl (zc_T TY f a tau T1 T) H a (.inl (oc, fl)) := by
      refine ⟨r, x4, z_beq f2, V, x5, fun k c hk => ?_⟩
      have hk : fl[k]? = some c := hk
      have hlt : k < fl.length := (List.getElem?_eq_some_iff.mp hk).1
      have f4 := List.all_eq_true.mp f3 k (List.mem_range.mpr hlt)
      have f4 : (match fl[k]? with
        | some c => zc_fld TY f st oc k c
        | none => false) = true := f4
      rw [hk] at f4
      have f4 : zc_fld TY f st oc k c = true := f4
      have hV : ∀ v, z_sl H a (D.2 oc k) v → V k = v := by
        intro v hv
        obtain ⟨cell, c1, c2, c3, c4⟩ := x5
        exact zj_fun ⟨cell, c1, c3, c4 k (by rw [← z_beq f2]; exact hlt)⟩ hv
      rcases zc_fld_ok f4 with ⟨rr, qq, hrr, rfl, q1, q2⟩ | ⟨u, o2, hu, ho2, rfl⟩
      · obtain ⟨v, v1, v2⟩ := fv hrr
        rw [hV v v1]
        obtain ⟨x, ex, hx⟩ := v2
        exact ⟨x, ex, z_in_le (z_ile_ok q1) (z_ile_ok q2) hx⟩
      · obtain ⟨v, v1, v2⟩ := fv hu
        rw [hV v v1]
        obtain ⟨b, eb, hb⟩ := v2
        obtain ⟨-, n2, n3⟩ := new b u hb
        exact ⟨b, eb, zc_T_new n2 n3 hb ho2⟩
    have sub : ∀ b t, T1 b = some t → zc_T TY f a tau T1 T b = some t := fun b t hb => zc_T_old (old b t hb).1 hb
    have base : ∀ q t, zc_T TY f a tau T1 T q = some t → ∃ ty, TY[t]? = some ty ∧ z_cell OB D DA cl (zc_T TY f a tau T1 T) H q ty := by
      intro q t hq
      rcases zc_T_inv hq with ⟨rfl, rfl⟩ | ⟨e, h1⟩ | ⟨e, h1, u, o2, h2, h3, rfl⟩
      · exact ⟨_, ho, hcell⟩
      · obtain ⟨ty, y1, y2⟩ := h0.1 q t h1
        refine ⟨ty, y1, z_cell_mono (T := T1) (fun b t hb => sub b t hb) ?_⟩
        exact zb_cell_kept y2 (old q t h1).2.1
      · obtain ⟨ty, y1, y2⟩ := hm.1.1 q u h2
        rw [h3] at y1
        cases y1
        obtain ⟨o4, k1, k2⟩ := zc_arr (T2 := zc_T TY f a tau T1 T) hf h3 y2
        exact ⟨_, k1, k2⟩
    have cls : ∀ q t c fl2, zc_T TY f a tau T1 T q = some t → TY[t]? = some (.inl (c, fl2)) → (q = a ∧ c = oc) ∨ (q ≠ a ∧ T1 q = some t) := by
      intro q t c fl2 hq hty
      rcases zc_T_inv hq with ⟨rfl, rfl⟩ | ⟨e, h1⟩ | ⟨e, h1, u, o2, h2, h3, rfl⟩
      · rw [ho] at hty
        cases hty
        exact Or.inl ⟨rfl, rfl⟩
      · exact Or.inr ⟨e, h1⟩
      · obtain ⟨ty, y1, y2⟩ := hm.1.1 q u h2
        rw [h3] at y1
        cases y1
        obtain ⟨o4, k1, k2⟩ := zc_arr (T2 := T) hf h3 y2
        rw [hty] at k1
        cases k1
    have a0 : ∀ {k : Nat}, zc_a0 TY st oc k = true → ∃ (b : Nat) (g : Int → Int), z_sl H a (D.2 oc k) (.ref b) ∧ zj_c (zc_T TY f a tau T1 T) DA H b g ∧ H0.size ≤ b := by
      intro k hk
      unfold zc_a0 at hk
      split at hk
      · rename_i u hu
        obtain ⟨v, v1, b, rfl, v2⟩ := fv hu
        split at hk
        · rename_i o2 ho2
          obtain ⟨n1, n2, n3⟩ := new b u v2
          obtain ⟨ty, y1, y2⟩ := hm.1.1 b u v2
          rw [ho2] at y1
          cases y1
          obtain ⟨n, g, z1, -⟩ := y2
          rw [z_beq hk] at z1
          exact ⟨b, _, v1, ⟨by rw [zc_T_new n2 n3 v2 ho2]; rfl, n, g, z1, rfl⟩, n1⟩
        · cases hk
      · cases hk
    have zr : ∀ {k : Nat}, zc_zr TY st oc k = true → ∃ (b : Nat) (g : Int → Int), z_sl H a (D.2 oc k) (.ref b) ∧ zj_c (zc_T TY f a tau T1 T) DA H b g ∧ H0.size ≤ b ∧ ∀ i : Int, 0 ≤ i → i < 200 → g i = 0 := by
      intro k hk
      unfold zc_zr at hk
      split at hk
      · rename_i u hu
        obtain ⟨v, v1, b, rfl, v2⟩ := fv hu
        split at hk
        · rename_i o2 ho2
          simp only [Bool.and_eq_true] at hk
          obtain ⟨⟨k1, k2⟩, k3⟩ := hk
          obtain ⟨n1, n2, n3⟩ := new b u v2
          obtain ⟨ty, y1, y2⟩ := hm.1.1 b u v2
          rw [ho2] at y1
          cases y1
          obtain ⟨n, g, z1, z2, z3, z4, z5⟩ := y2
          rw [z_beq k1] at z1
          have l2 := Nat.le_of_ble_eq_true k2
          obtain ⟨s, s1, s2⟩ := List.any_eq_true.mp k3
          simp only [Bool.and_eq_true] at s2
          obtain ⟨⟨s3, s4⟩, s5⟩ := s2
          have l4 := Nat.le_of_ble_eq_true s4
          refine ⟨b, _, v1, ⟨by rw [zc_T_new n2 n3 v2 ho2]; rfl, n, g, z1, rfl⟩, n1, fun i i1 i2 => ?_⟩
          have hv := z5 s s1 i.toNat (by omega) (by rw [z_beq s3]; exact Nat.zero_le _) (by omega)
          split at s5
          · rename_i rr hrr
            rw [hrr] at hv
            rw [Bool.and_eq_true] at s5
            obtain ⟨x, ex, hx1, hx2⟩ := hv
            have q1 := z_ile_ok s5.1
            have q2 := z_ile_ok s5.2
            show (match g i.toNat with
              | .int x => x.toInt
              | _ => 0) = 0
            rw [ex]
            show x.toInt = 0
            omega
          · cases s5
        · cases hk
      · cases hk
    unfold zc_J at hJ
    simp only [Bool.and_eq_true] at hJ
    have hobj : zj_obj (zc_T TY f a tau T1 T) D DA H a oc := by
      refine ⟨fun e => ?_, fun e => ?_⟩
      · subst e
        have h1 := hJ.1
        have hb : Nat.beq 12 12 = true := rfl
        simp only [hb, Bool.not_true, Bool.false_or, Bool.and_eq_true] at h1
        obtain ⟨c0, ⟨j1, j2⟩, j3, j4⟩ := h1
        obtain ⟨b1, g1, s1, w1, -⟩ := a0 j1
        obtain ⟨b2, g2, s2, w2, -⟩ := a0 j2
        obtain ⟨b3, g3, s3, w3, -⟩ := a0 j3
        obtain ⟨b4, g4, s4, w4, -⟩ := a0 j4
        unfold zc_c0 at c0
        split at c0
        · rename_i rr hrr
          obtain ⟨v, v1, x, rfl, hx1, hx2⟩ := fv hrr
          rw [Bool.and_eq_true] at c0
          have q1 := z_ile_ok c0.1
          have q2 := z_ile_ok c0.2
          have hx : x.toInt = 0 := by omega
          exact ⟨x, b1, b2, b3, b4, g1, g2, g3, g4, v1, ⟨s1, w1⟩, ⟨s2, w2⟩, ⟨s3, w3⟩, ⟨s4, w4⟩, fun _ => 0, 0, Int.le_refl _, by omega, fun k k1 k2 => absurd k1 (by omega), by omega, by omega, fun q q1 q2 => absurd q1 (by omega)⟩
        · cases c0
      · subst e
        have h1 := hJ.2
        have hb : Nat.beq 4 4 = true := rfl
        simp only [hb, Bool.not_true, Bool.false_or, Bool.and_eq_true] at h1
        obtain ⟨b1, g1, s1, w1, -, e1⟩ := zr h1.1
        obtain ⟨b2, g2, s2, w2, -, e2⟩ := zr h1.2
        refine ⟨b1, b2, g1, g2, ⟨s1, w1⟩, ⟨s2, w2⟩, fun k k1 k2 => ?_⟩
        rw [e1 k k1 k2, e2 k k1 k2]
        exact ⟨by omega, by omega, by omega, by omega, fun _ => by omega⟩
    have fresh : ∀ k ∈ zj_refs oc, ∀ b : Nat, z_sl H a (D.2 oc k) (.ref b) → H0.size ≤ b := by
      intro k hk b hb
      by_cases e : oc = 12
      · subst e
        have h1 := hJ.1
        have hb2 : Nat.beq 12 12 = true := rfl
        simp only [hb2, Bool.not_true, Bool.false_or, Bool.and_eq_true] at h1
        obtain ⟨c0, ⟨j1, j2⟩, j3, j4⟩ := h1
        have hk : k ∈ [20, 22, 23, 24] := hk
        simp only [List.mem_cons, List.not_mem_nil, or_false] at hk
        have fin : ∀ {k2 : Nat}, zc_a0 TY st 12 k2 = true → z_sl H a (D.2 12 k2) (.ref b) → H0.size ≤ b := by
          intro k2 j hb3
          obtain ⟨b1, g1, s1, w1, l1⟩ := a0 j
          have := zj_fun s1 hb3
          cases this
          exact l1
        rcases hk with rfl | rfl | rfl | rfl
        · exact fin j1 hb
        · exact fin j2 hb
        · exact fin j3 hb
        · exact fin j4 hb
      · by_cases e4 : oc = 4
        · subst e4
          have h1 := hJ.2
          have hb2 : Nat.beq 4 4 = true := rfl
          simp only [hb2, Bool.not_true, Bool.false_or, Bool.and_eq_true] at h1
          have hk : k ∈ [0, 1] := hk
          simp only [List.mem_cons, List.not_mem_nil, or_false] at hk
          have fin : ∀ {k2 : Nat}, zc_zr TY st 4 k2 = true → z_sl H a (D.2 4 k2) (.ref b) → H0.size ≤ b := by
            intro k2 j hb3
            obtain ⟨b1, g1, s1, w1, l1, -⟩ := zr j
            have := zj_fun s1 hb3
            cases this
            exact l1
          rcases hk with rfl | rfl
          · exact fin h1.1 hb
          · exact fin h1.2 hb
        · exfalso
          have n1 : Nat.beq oc 12 = false := by
            cases hb : Nat.beq oc 12 with
            | false => rfl
            | true => exact absurd (Nat.eq_of_beq_eq_true hb) e
          have n2 : Nat.beq oc 4 = false := by
            cases hb : Nat.beq oc 4 with
            | false => rfl
            | true => exact absurd (Nat.eq_of_beq_eq_true hb) e4
          unfold zj_refs at hk
          rw [n1, n2] at hk
          exact absurd hk List.not_mem_nil
    have kept : ∀ q t c fl2, T1 q = some t → TY[t]? = some (.inl (c, fl2)) → ∀ k (b : Nat), k ∈ zj_refs c → z_sl H q (D.2 c k) (.ref b) → b < H0.size := by
      intro q t c fl2 hq hty k b hk hb
      obtain ⟨b0, s0⟩ := zj_has (h0.2.1 q t c fl2 hq hty) hk
      have s1 : z_sl H q (D.2 c k) (.ref b0) := by
        obtain ⟨cell, c1, c2⟩ := s0
        exact ⟨cell, by rw [(old q t hq).2.1]; exact c1, c2⟩
      have := zj_fun s1 hb
      cases this
      have ob := h0.2.1 q t c fl2 hq hty
      have some1 : (T1 b).isSome = true := by
        by_cases e : c = 12
        · subst e
          obtain ⟨cs, b1, b2, b3, b4, g1, g2, g3, g4, -, ⟨u1, w1⟩, ⟨u2, w2⟩, ⟨u3, w3⟩, ⟨u4, w4⟩, -⟩ := ob.1 rfl
          have hk : k ∈ [20, 22, 23, 24] := hk
          simp only [List.mem_cons, List.not_mem_nil, or_false] at hk
          rcases hk with rfl | rfl | rfl | rfl
          · have := zj_fun u1 s0; cases this; exact w1.1
          · have := zj_fun u2 s0; cases this; exact w2.1
          · have := zj_fun u3 s0; cases this; exact w3.1
          · have := zj_fun u4 s0; cases this; exact w4.1
        · by_cases e4 : c = 4
          · subst e4
            obtain ⟨b1, b2, g1, g2, ⟨u1, w1⟩, ⟨u2, w2⟩, -⟩ := ob.2 rfl
            have hk : k ∈ [0, 1] := hk
            simp only [List.mem_cons, List.not_mem_nil, or_false] at hk
            rcases hk with rfl | rfl
            · have := zj_fun u1 s0; cases this; exact w1.1
            · have := zj_fun u2 s0; cases this; exact w2.1
          · exfalso
            have n1 : Nat.beq c 12 = false := by
              cases hb : Nat.beq c 12 with
              | false => rfl
              | true => exact absurd (Nat.eq_of_beq_eq_true hb) e
            have n2 : Nat.beq c 4 = false := by
              cases hb : Nat.beq c 4 with
              | false => rfl
              | true => exact absurd (Nat.eq_of_beq_eq_true hb) e4
            unfold zj_refs at hk
            rw [n1, n2] at hk
            exact absurd hk List.not_mem_nil
      cases hT : T1 b with
      | none => rw [hT] at some1; cases some1
      | some u => exact (old b u hT).2.2
    refine ⟨base, fun q t c fl2 hq hty => ?_, fun q q' t t' c fl2 fl2' h1 h2 h3 h4 k hk b h5 h6 => ?_⟩
    · rcases cls q t c fl2 hq hty with ⟨rfl, rfl⟩ | ⟨e, h1⟩
      · exact hobj
      · refine zj_kept (h0.2.1 q t c fl2 h1 hty) (fun b hb => ?_) (fun k hk w hw => ?_) (fun k hk b hb hb2 => ?_)
        · cases hT : T1 b with
          | none => rw [hT] at hb; cases hb
          | some u => rw [sub b u hT]; rfl
        · obtain ⟨cell, c1, c2⟩ := hw
          exact ⟨cell, by rw [(old q t h1).2.1]; exact c1, c2⟩
        · cases hT : T1 b with
          | none => rw [hT] at hb2; cases hb2
          | some u => exact (old b u hT).2.1
    · rcases cls q t c fl2 h1 h2 with ⟨e1, e2⟩ | ⟨e1, g1⟩
      · rcases cls q' t' c fl2' h3 h4 with ⟨e3, e4⟩ | ⟨e3, g3⟩
        · rw [e1, e3]
        · subst e2
          rw [e1] at h5
          have l1 := fresh k hk b h5
          have l2 := kept q' t' _ fl2' g3 h4 k b hk h6
          omega
      · rcases cls q' t' c fl2' h3 h4 with ⟨e3, e4⟩ | ⟨e3, g3⟩
        · subst e4
          rw [e3] at h6
          have l1 := fresh k hk b h6
          have l2 := kept q t _ fl2 g1 h2 k b hk h5
          omega
        · have old5 : z_sl H0 q (D.2 c k) (.ref b) := by
            obtain ⟨cell, c1, c2⟩ := h5
            exact ⟨cell, by rw [← (old q t g1).2.1]; exact c1, c2⟩
          have old6 : z_sl H0 q' (D.2 c k) (.ref b) := by
            obtain ⟨cell, c1, c2⟩ := h6
            exact ⟨cell, by rw [← (old q' t' g3).2.1]; exact c1, c2⟩
          exact h0.2.2 q q' t t' c fl2 fl2' g1 h2 g3 h4 k hk b old5 old6
  · cases hF
end ZCONS
