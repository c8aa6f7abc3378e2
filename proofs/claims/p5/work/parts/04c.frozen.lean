/-! What is kept of laws in every typed heap. -/
def z_T1 (T : zTp) (a t : Nat) : zTp := fun q => if q = a then some t else T q
theorem z_T1_at {T : zTp} {a tau : Nat} : z_T1 T a tau a = some tau := by unfold z_T1; rw [if_pos rfl]
theorem z_T1_ne {T : zTp} {a tau b : Nat} (h : b ≠ a) : z_T1 T a tau b = T b := by unfold z_T1; rw [if_neg h]
def zp_q (D said w : Int → Int) (cm wt k : Int) : Prop :=
  0 ≤ said k ∧ 0 ≤ D k ∧
  ((said k / 1048576 = 0 ∧ D (k + 1) ≤ D k + 1) ∨ (said k / 1048576 = 1 ∧ said k % 1048576 ≤ 12 ∧ D (k + 1) ≤ D k + 1) ∨ (2 ≤ said k / 1048576 ∧ said k / 1048576 ≤ 9 ∧ 2 ≤ D k ∧ D (k + 1) ≤ D k - 1) ∨ (said k / 1048576 = 10 ∧ 1 ≤ D k ∧ D (k + 1) ≤ D k) ∨
    ((said k / 1048576 = 11 ∨ said k / 1048576 = 12) ∧ 1 ≤ D k ∧ D (k + 1) ≤ D k - 1 ∧ ((k < said k % 1048576 ∧ said k % 1048576 ≤ cm ∧ D (said k % 1048576) ≤ D k) ∨ ∃ j, 0 ≤ j ∧ j < wt ∧ (w j / 1048576 = 11 ∨ w j / 1048576 = 12) ∧ w j % 1048576 = k)))
/-- the clauses that are read -/
def zp_cl (D sf sh st : Int → Int) (cm sm : Int) : Prop := ∀ q, 0 ≤ q → q < sm → 0 ≤ sf q ∧ sf q ≤ sh q ∧ sh q ≤ st q ∧ st q ≤ cm ∧ D (sf q) = 0 ∧ D (sh q) = 0
/-- a law as it is kept: where codes are and how deep the stack is ahead of each -/
def zp_J (codes : Int → Int) (cs : Int) (cf ch ct : Int → Int) : Prop :=
  ∃ (D : Int → Int) (cm : Int), 0 ≤ cm ∧ cm ≤ 200 ∧ (∀ k, 0 ≤ k → k < cm → zp_q D codes (fun _ => 0) cm 0 k) ∧ 0 ≤ cs ∧ cs ≤ 14 ∧ zp_cl D cf ch ct cm cs
/-- steps as they are kept: a letter's value is a letter -/
def zr_J (kinds vals : Int → Int) : Prop := ∀ k, 0 ≤ k → k < 200 → 0 ≤ kinds k ∧ kinds k ≤ 12 ∧ 0 ≤ vals k ∧ vals k ≤ 99999 ∧ (kinds k = 1 → vals k ≤ 12)
/-- what stands in an array of ints -/
def zj_g (f : Nat → Value) : Int → Int := fun i => match f i.toNat with
  | .int x => x.toInt
  | _ => 0
def zj_c (T : zTp) (DA : Nat → ClassId) (H : Heap) (b : Nat) (g : Int → Int) : Prop := (T b).isSome = true ∧ ∃ (n : Nat) (f : Nat → Value), H[b]? = some (arrV (DA 0) n f) ∧ g = zj_g f
def zj_obj (T : zTp) (D : va_G) (DA : Nat → ClassId) (H : Heap) (a ci : Nat) : Prop :=
  (ci = 12 → ∃ (cs : Int32) (b1 b2 b3 b4 : Nat) (g1 g2 g3 g4 : Int → Int), z_sl H a (D.2 ci 13) (.int cs) ∧ (z_sl H a (D.2 ci 20) (.ref b1) ∧ zj_c T DA H b1 g1) ∧ (z_sl H a (D.2 ci 22) (.ref b2) ∧ zj_c T DA H b2 g2) ∧ (z_sl H a (D.2 ci 23) (.ref b3) ∧ zj_c T DA H b3 g3) ∧ (z_sl H a (D.2 ci 24) (.ref b4) ∧ zj_c T DA H b4 g4) ∧ zp_J g1 cs.toInt g2 g3 g4) ∧
  (ci = 4 → ∃ (b1 b2 : Nat) (g1 g2 : Int → Int), (z_sl H a (D.2 ci 0) (.ref b1) ∧ zj_c T DA H b1 g1) ∧ (z_sl H a (D.2 ci 1) (.ref b2) ∧ zj_c T DA H b2 g2) ∧ zr_J g1 g2 ∧ b2 = b1 + 1)
def zj_refs (ci : Nat) : List Nat := cond (Nat.beq ci 12) [20, 22, 23, 24] (cond (Nat.beq ci 4) [0, 1] [])
def zj_slots (ci : Nat) : List Nat := cond (Nat.beq ci 12) [13, 20, 22, 23, 24] (cond (Nat.beq ci 4) [0, 1] [])
/-- a type that must not be stored to: an array of a law, or no one knows -/
def zj_prot (TY : List zTy) (t : Nat) : Bool := TY.any (fun ty => match ty with
  | .inl o => (zj_refs o.1).any (fun k => match o.2[k]? with
    | some (.inr (.inl u)) => Nat.beq u t
    | _ => true)
  | .inr _ => false)
def zj_z0 (c : Option zV) : Bool := match c with
  | some (.inl r) => z_ile 0 r.1 && z_ile r.2 0
  | _ => false
/-- but one model that holds a law -/
def zj_u (TY : List zTy) (T : zTp) : Prop := ∀ a a' t t' fl fl', T a = some t → TY[t]? = some (.inl (12, fl)) → zj_z0 fl[13]? = false → T a' = some t' → TY[t']? = some (.inl (12, fl')) → zj_z0 fl'[13]? = false → a = a'
def z_J (D : va_G) (DA : Nat → ClassId) (TY : List zTy) (T : zTp) (H : Heap) : Prop := (∀ a t ci fl, T a = some t → TY[t]? = some (.inl (ci, fl)) → zj_obj T D DA H a ci) ∧ zj_u TY T
section ZFROZEN
variable {OB : Nat → Nat} {D : va_G} {DA : Nat → ClassId} {cl : List vw_C} {TY : List zTy} {T T' : zTp} {H H1 : Heap}
theorem zj_c_kept {b : Nat} {g : Int → Int} (h : zj_c T DA H b g) (hT : (T b).isSome = true → (T' b).isSome = true) (hr : H1[b]? = H[b]?) : zj_c T' DA H1 b g := by
  obtain ⟨h1, n, f, h2, h3⟩ := h
  exact ⟨hT h1, n, f, by rw [hr]; exact h2, h3⟩
theorem zj_kept {a ci : Nat} (h : zj_obj T D DA H a ci) (hT : ∀ b, (T b).isSome = true → (T' b).isSome = true) (hs : ∀ k ∈ zj_slots ci, ∀ w, z_sl H a (D.2 ci k) w → z_sl H1 a (D.2 ci k) w) (hr : ∀ k ∈ zj_refs ci, ∀ b, z_sl H a (D.2 ci k) (.ref b) → (T b).isSome = true → H1[b]? = H[b]?) : zj_obj T' D DA H1 a ci := by
  refine ⟨fun e => ?_, fun e => ?_⟩
  · obtain ⟨cs, b1, b2, b3, b4, g1, g2, g3, g4, s0, ⟨s1, c1⟩, ⟨s2, c2⟩, ⟨s3, c3⟩, ⟨s4, c4⟩, hJ⟩ := h.1 e
    subst e
    exact ⟨cs, b1, b2, b3, b4, g1, g2, g3, g4, hs 13 (by decide) _ s0, ⟨hs 20 (by decide) _ s1, zj_c_kept c1 (hT _) (hr 20 (by decide) _ s1 c1.1)⟩, ⟨hs 22 (by decide) _ s2, zj_c_kept c2 (hT _) (hr 22 (by decide) _ s2 c2.1)⟩, ⟨hs 23 (by decide) _ s3, zj_c_kept c3 (hT _) (hr 23 (by decide) _ s3 c3.1)⟩, ⟨hs 24 (by decide) _ s4, zj_c_kept c4 (hT _) (hr 24 (by decide) _ s4 c4.1)⟩, hJ⟩
  · obtain ⟨b1, b2, g1, g2, ⟨s1, c1⟩, ⟨s2, c2⟩, hJ⟩ := h.2 e
    subst e
    exact ⟨b1, b2, g1, g2, ⟨hs 0 (by decide) _ s1, zj_c_kept c1 (hT _) (hr 0 (by decide) _ s1 c1.1)⟩, ⟨hs 1 (by decide) _ s2, zj_c_kept c2 (hT _) (hr 1 (by decide) _ s2 c2.1)⟩, hJ⟩
/-- a field of a typed object by its type -/
theorem zj_fld {a t ci k : Nat} {fl : List zV} {w : Value} (hb : ∀ a t, T a = some t → ∃ ty, TY[t]? = some ty ∧ z_cell OB D DA cl T H a ty) (ha : T a = some t) (hty : TY[t]? = some (.inl (ci, fl))) {c : zV} (hc : fl[k]? = some c) (hw : z_sl H a (D.2 ci k) w) : z_v OB T c w := by
  obtain ⟨ty, h1, h2⟩ := hb a t ha
  rw [hty] at h1
  cases h1
  obtain ⟨r, q1, q2, V, ⟨cell, q3, q4, q5, q6⟩, q7⟩ := h2
  have hlt : k < r.2.2 := by rw [← q2]; exact (List.getElem?_eq_some_iff.mp hc).1
  obtain ⟨cell2, x1, x2, x3⟩ := hw
  rw [q3] at x1
  cases x1
  have := q6 k hlt
  rw [x3] at this
  cases this
  exact q7 k c hc
theorem zj_prot_ok {t t0 ci k : Nat} {fl : List zV} (h : zj_prot TY t0 = false) (hty : TY[t]? = some (.inl (ci, fl))) (hk : k ∈ zj_refs ci) : ∃ u, fl[k]? = some (.inr (.inl u)) ∧ u ≠ t0 := by
  unfold zj_prot at h
  have h1 := List.any_eq_false.mp h _ (List.mem_of_getElem? hty)
  have h1 : ¬ (zj_refs ci).any (fun k => match fl[k]? with
    | some (.inr (.inl u)) => Nat.beq u t0
    | _ => true) = true := h1
  have h2 := List.any_eq_false.mp (by simpa using h1) k hk
  split at h2
  · rename_i u hu
    exact ⟨u, hu, fun e => h2 (by rw [e]; exact Nat.beq_refl _)⟩
  · exact absurd rfl h2
/-- one typed cell is written that is no law's -/
theorem zJ_set {a0 t0 : Nat} (hJ : z_J D DA TY T H) (hb : ∀ a t, T a = some t → ∃ ty, TY[t]? = some ty ∧ z_cell OB D DA cl T H a ty) (ht0 : T a0 = some t0) (hp : zj_prot TY t0 = false) (oq : ∀ b : Nat, b ≠ a0 → H1[b]? = H[b]?)
    (h0 : ∀ ci fl, TY[t0]? = some (.inl (ci, fl)) → ∀ k ∈ zj_slots ci, ∀ w, z_sl H a0 (D.2 ci k) w → z_sl H1 a0 (D.2 ci k) w) : z_J D DA TY T H1 := by
  refine ⟨fun a t ci fl ha hty => ?_, hJ.2⟩
  refine zj_kept (hJ.1 a t ci fl ha hty) (fun _ h => h) (fun k hk w hw => ?_) (fun k hk b hw _ => oq b (fun e => ?_))
  · by_cases e : a = a0
    · subst e
      rw [ht0] at ha
      cases ha
      exact h0 ci fl hty k hk w hw
    · obtain ⟨cell, x1, x2, x3⟩ := hw
      exact ⟨cell, by rw [oq a e]; exact x1, x2, x3⟩
  · obtain ⟨u, u1, u2⟩ := zj_prot_ok hp hty hk
    obtain ⟨b2, e2, hb2⟩ := zj_fld hb ha hty u1 hw
    cases e2
    rw [e, ht0] at hb2
    exact u2 (Option.some.inj hb2).symm
/-- a cell without a type is written -/
theorem zJ_raw {a0 : Nat} (hJ : z_J D DA TY T H) (ht0 : T a0 = none) (oq : ∀ b : Nat, b ≠ a0 → H1[b]? = H[b]?) : z_J D DA TY T H1 := by
  refine ⟨fun a t ci fl ha hty => ?_, hJ.2⟩
  refine zj_kept (hJ.1 a t ci fl ha hty) (fun _ h => h) (fun k hk w hw => ?_) (fun k hk b hw hs => oq b (fun e => by rw [e, ht0] at hs; cases hs))
  obtain ⟨cell, x1, x2, x3⟩ := hw
  exact ⟨cell, by rw [oq a (fun e => by rw [e, ht0] at ha; cases ha)]; exact x1, x2, x3⟩
/-- a cell gets a type; the heap may grow -/
theorem zJ_grow {a0 tau : Nat} (hJ : z_J D DA TY T H) (ht0 : T a0 = none) (hlt : ∀ a t, T a = some t → a < H.size) (oq : ∀ b : Nat, b < H.size → b ≠ a0 → H1[b]? = H[b]?) (hn : ∀ ci fl, TY[tau]? = some (.inl (ci, fl)) → zj_obj (z_T1 T a0 tau) D DA H1 a0 ci ∧ (ci = 12 → zj_z0 fl[13]? = true)) : z_J D DA TY (z_T1 T a0 tau) H1 := by
  refine ⟨fun a t ci fl ha hty => ?_, fun a a' t t' fl fl' h1 h2 h3 h4 h5 h6 => ?_⟩
  rotate_left
  · by_cases e : a = a0
    · rw [e, z_T1_at] at h1
      cases h1
      rw [(hn _ _ h2).2 rfl] at h3
      cases h3
    · by_cases e' : a' = a0
      · rw [e', z_T1_at] at h4
        cases h4
        rw [(hn _ _ h5).2 rfl] at h6
        cases h6
      · rw [z_T1_ne e] at h1
        rw [z_T1_ne e'] at h4
        exact hJ.2 a a' t t' fl fl' h1 h2 h3 h4 h5 h6
  by_cases e : a = a0
  · subst e
    rw [z_T1_at] at ha
    cases ha
    exact (hn ci fl hty).1
  · rw [z_T1_ne e] at ha
    have lt : ∀ b, (T b).isSome = true → b < H.size ∧ b ≠ a0 := by
      intro b hb
      cases hT : T b with
      | none => rw [hT] at hb; cases hb
      | some u => exact ⟨hlt b u hT, fun e2 => by rw [e2, ht0] at hT; cases hT⟩
    refine zj_kept (hJ.1 a t ci fl ha hty) (fun b hb => ?_) (fun k hk w hw => ?_) (fun k hk b hw hs => oq b (lt b hs).1 (lt b hs).2)
    · rw [z_T1_ne (lt b hb).2]; exact hb
    · obtain ⟨cell, x1, x2, x3⟩ := hw
      exact ⟨cell, by rw [oq a (hlt a t ha) e]; exact x1, x2, x3⟩
/-- other types, of the same classes -/
theorem zJ_map {f : Nat → Nat} (hJ : z_J D DA TY T H) (hf : ∀ a t, T a = some t → ∀ ci fl, TY[f t]? = some (.inl (ci, fl)) → ∃ fl0, TY[t]? = some (.inl (ci, fl0)) ∧ (ci = 12 → zj_z0 fl[13]? = false → zj_z0 fl0[13]? = false)) : z_J D DA TY (fun b => (T b).map f) H := by
  have back : ∀ a t, (T a).map f = some t → ∃ u, T a = some u ∧ t = f u := by
    intro a t h
    cases hT : T a with
    | none => simp [hT] at h
    | some u => exact ⟨u, rfl, by simp [hT] at h; exact h.symm⟩
  refine ⟨fun a t ci fl ha hty => ?_, fun a a' t t' fl fl' h1 h2 h3 h4 h5 h6 => ?_⟩
  rotate_left
  · obtain ⟨u, u1, rfl⟩ := back a t h1
    obtain ⟨u', u1', rfl⟩ := back a' t' h4
    obtain ⟨f0, f1, f2⟩ := hf a u u1 _ _ h2
    obtain ⟨f0', f1', f2'⟩ := hf a' u' u1' _ _ h5
    exact hJ.2 a a' u u' f0 f0' u1 f1 (f2 rfl h3) u1' f1' (f2' rfl h6)
  cases hT : T a with
  | none => simp [hT] at ha
  | some u =>
    have hu : t = f u := by simp [hT] at ha; exact ha.symm
    subst hu
    obtain ⟨fl0, h0, -⟩ := hf a u hT ci fl hty
    refine zj_kept (hJ.1 a u ci fl0 hT h0) (fun b hb => ?_) (fun k hk w hw => hw) (fun k hk b hw hs => rfl)
    cases hTb : T b with
    | none => rw [hTb] at hb; cases hb
    | some v => simp [hTb]
/-- the heap grows -/
theorem zJ_ext (hJ : z_J D DA TY T H) (hlt : ∀ a t, T a = some t → a < H.size) (oq : ∀ b : Nat, b < H.size → H1[b]? = H[b]?) : z_J D DA TY T H1 := by
  refine ⟨fun a t ci fl ha hty => ?_, hJ.2⟩
  refine zj_kept (hJ.1 a t ci fl ha hty) (fun _ h => h) (fun k hk w hw => ?_) (fun k hk b hw hs => ?_)
  · obtain ⟨cell, x1, x2, x3⟩ := hw
    exact ⟨cell, by rw [oq a (hlt a t ha)]; exact x1, x2, x3⟩
  · cases hT : T b with
    | none => rw [hT] at hs; cases hs
    | some u => exact oq b (hlt b u hT)
/-- an array of a new object -/
def zj_arr (TY : List zTy) (c : Option zV) : Bool := match c with
  | some (.inr (.inl u)) => (match TY[u]? with
    | some (.inr q) => Nat.beq q.1 0
    | _ => false)
  | _ => false
/-- such that holds nothing but 0 -/
def zj_zero (TY : List zTy) (c : Option zV) : Bool := match c with
  | some (.inr (.inl u)) => (match TY[u]? with
    | some (.inr q) => Nat.beq q.1 0 && Nat.ble 200 q.2.1.1 && q.2.2.any (fun g => Nat.beq g.1.1 0 && Nat.ble 199 g.1.2 && (match g.2 with
      | .inl r => z_ile 0 r.1 && z_ile r.2 0
      | _ => false))
    | _ => false)
  | _ => false
def zj_new (TY : List zTy) (ci : Nat) (fl : List zV) : Bool :=
  (!(Nat.beq ci 12) || (zj_z0 fl[13]? && (zj_arr TY fl[20]? && zj_arr TY fl[22]? && zj_arr TY fl[23]? && zj_arr TY fl[24]?))) &&
  (!(Nat.beq ci 4) || (zj_zero TY fl[0]? && zj_zero TY fl[1]?))
theorem zj_arr_ok {a t ci k : Nat} {fl : List zV} (hb : ∀ a t, T a = some t → ∃ ty, TY[t]? = some ty ∧ z_cell OB D DA cl T H a ty) (ha : T a = some t) (hty : TY[t]? = some (.inl (ci, fl))) (h : zj_arr TY fl[k]? = true) : ∃ (b : Nat) (g : Int → Int), z_sl H a (D.2 ci k) (.ref b) ∧ zj_c T DA H b g := by
  unfold zj_arr at h
  split at h
  · rename_i u hu
    obtain ⟨ty, h1, h2⟩ := hb a t ha
    rw [hty] at h1
    cases h1
    obtain ⟨r, q1, q2, V, ⟨cell, q3, q4, q5, q6⟩, q7⟩ := h2
    have hlt : k < r.2.2 := by rw [← q2]; exact (List.getElem?_eq_some_iff.mp hu).1
    obtain ⟨b, e1, e2⟩ := q7 k _ hu
    split at h
    · rename_i q hq
      obtain ⟨ty2, y1, y2⟩ := hb b u e2
      rw [hq] at y1
      cases y1
      obtain ⟨n, f, z1, -⟩ := y2
      have eq0 : q.1 = 0 := z_beq h
      rw [eq0] at z1
      exact ⟨b, _, ⟨cell, q3, q5, by rw [q6 k hlt, e1]⟩, by rw [e2]; rfl, n, f, z1, rfl⟩
    · cases h
  · cases h
theorem zj_zero_ok {a t ci k : Nat} {fl : List zV} (hb : ∀ a t, T a = some t → ∃ ty, TY[t]? = some ty ∧ z_cell OB D DA cl T H a ty) (ha : T a = some t) (hty : TY[t]? = some (.inl (ci, fl))) (h : zj_zero TY fl[k]? = true) : ∃ (b : Nat) (g : Int → Int), z_sl H a (D.2 ci k) (.ref b) ∧ zj_c T DA H b g ∧ ∀ i : Int, 0 ≤ i → i < 200 → g i = 0 := by
  unfold zj_zero at h
  split at h
  · rename_i u hu
    obtain ⟨ty, h1, h2⟩ := hb a t ha
    rw [hty] at h1
    cases h1
    obtain ⟨r, q1, q2, V, ⟨cell, q3, q4, q5, q6⟩, q7⟩ := h2
    have hlt : k < r.2.2 := by rw [← q2]; exact (List.getElem?_eq_some_iff.mp hu).1
    obtain ⟨b, e1, e2⟩ := q7 k _ hu
    split at h
    · rename_i q hq
      obtain ⟨ty2, y1, y2⟩ := hb b u e2
      rw [hq] at y1
      cases y1
      obtain ⟨n, f, z1, z2, z3, z4, z5⟩ := y2
      simp only [Bool.and_eq_true] at h
      obtain ⟨⟨h8, h9⟩, h10⟩ := h
      have eq0 : q.1 = 0 := z_beq h8
      have hn : 200 ≤ q.2.1.1 := Nat.le_of_ble_eq_true h9
      rw [eq0] at z1
      obtain ⟨g, hg1, hg2⟩ := List.any_eq_true.mp h10
      simp only [Bool.and_eq_true] at hg2
      obtain ⟨⟨g8, g9⟩, g10⟩ := hg2
      refine ⟨b, _, ⟨cell, q3, q5, by rw [q6 k hlt, e1]⟩, ⟨by rw [e2]; rfl, n, f, z1, rfl⟩, fun i i1 i2 => ?_⟩
      have hv := z5 g hg1 i.toNat (by omega) (by rw [z_beq g8]; exact Nat.zero_le _) (by have := Nat.le_of_ble_eq_true g9; omega)
      split at g10
      · rename_i rr hrr
        rw [hrr] at hv
        obtain ⟨x, ex, hx⟩ := hv
        rw [Bool.and_eq_true] at g10
        have l1 := z_ile_ok g10.1
        have l2 := z_ile_ok g10.2
        obtain ⟨x1, x2⟩ := hx
        show (match f i.toNat with
          | .int x => x.toInt
          | _ => 0) = 0
        rw [ex]
        show x.toInt = 0
        omega
      · cases g10
    · cases h
  · cases h
theorem zj_new_ok {a t ci : Nat} {fl : List zV} (hb : ∀ a t, T a = some t → ∃ ty, TY[t]? = some ty ∧ z_cell OB D DA cl T H a ty) (ha : T a = some t) (hty : TY[t]? = some (.inl (ci, fl))) (h : zj_new TY ci fl = true) (hpr : ci = 4 → ∃ b : Nat, z_sl H a (D.2 4 0) (.ref b) ∧ z_sl H a (D.2 4 1) (.ref (b + 1))) : zj_obj T D DA H a ci ∧ (ci = 12 → zj_z0 fl[13]? = true) := by
  unfold zj_new at h
  simp only [Bool.and_eq_true, Bool.or_eq_true, Bool.not_eq_true'] at h
  refine ⟨⟨fun e => ?_, fun e => ?_⟩, fun e => ?_⟩
  rotate_right
  · subst e
    rcases h.1 with h1 | ⟨h1, -⟩
    · cases h1
    · exact h1
  · subst e
    rcases h.1 with h1 | ⟨h1, ⟨⟨h2, h3⟩, h4⟩, h5⟩
    · cases h1
    · obtain ⟨b1, g1, s1, c1⟩ := zj_arr_ok hb ha hty h2
      obtain ⟨b2, g2, s2, c2⟩ := zj_arr_ok hb ha hty h3
      obtain ⟨b3, g3, s3, c3⟩ := zj_arr_ok hb ha hty h4
      obtain ⟨b4, g4, s4, c4⟩ := zj_arr_ok hb ha hty h5
      unfold zj_z0 at h1
      split at h1
      · rename_i rr hrr
        obtain ⟨ty, y1, y2⟩ := hb a t ha
        rw [hty] at y1
        cases y1
        obtain ⟨r, q1, q2, V, ⟨cell, q3, q4, q5, q6⟩, q7⟩ := y2
        have hlt : 13 < r.2.2 := by rw [← q2]; exact (List.getElem?_eq_some_iff.mp hrr).1
        obtain ⟨x, ex, x1, x2⟩ := q7 13 _ hrr
        rw [Bool.and_eq_true] at h1
        have l1 := z_ile_ok h1.1
        have l2 := z_ile_ok h1.2
        have hx : x.toInt = 0 := by omega
        refine ⟨x, b1, b2, b3, b4, g1, g2, g3, g4, ⟨cell, q3, q5, by rw [q6 13 hlt, ex]⟩, ⟨s1, c1⟩, ⟨s2, c2⟩, ⟨s3, c3⟩, ⟨s4, c4⟩, fun _ => 0, 0, Int.le_refl _, by omega, fun k k1 k2 => absurd k1 (by omega), by omega, by omega, fun q q1 q2 => absurd q1 (by omega)⟩
      · cases h1
  · subst e
    rcases h.2 with h1 | ⟨h1, h2⟩
    · cases h1
    · obtain ⟨b1, g1, s1, c1, e1⟩ := zj_zero_ok hb ha hty h1
      obtain ⟨b2, g2, s2, c2, e2⟩ := zj_zero_ok hb ha hty h2
      obtain ⟨b, p1, p2⟩ := hpr rfl
      have fn : ∀ {k : Nat} {v w : Value}, z_sl H a k v → z_sl H a k w → v = w := by
        intro k v w ⟨x1, e1, _, e3⟩ ⟨x2, f1, _, f3⟩
        rw [e1] at f1
        cases f1
        rw [e3] at f3
        exact Option.some.inj f3
      have q1 : Value.ref b1 = .ref b := fn s1 p1
      have q2 : Value.ref b2 = .ref (b + 1) := fn s2 p2
      refine ⟨b1, b2, g1, g2, ⟨s1, c1⟩, ⟨s2, c2⟩, fun k k1 k2 => ?_, by cases q1; cases q2; rfl⟩
      rw [e1 k k1 k2, e2 k k1 k2]
      exact ⟨by omega, by omega, by omega, by omega, fun _ => by omega⟩
end ZFROZEN
