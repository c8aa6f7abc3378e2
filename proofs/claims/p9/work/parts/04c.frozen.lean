/-! What is kept of laws in every typed heap. -/
def z_T1 (T : zTp) (a t : Nat) : zTp := fun q => if q = a then some t else T q
theorem z_T1_at {T : zTp} {a tau : Nat} : z_T1 T a tau a = some tau := by unfold z_T1; rw [if_pos rfl]
theorem z_T1_ne {T : zTp} {a tau b : Nat} (h : b ≠ a) : z_T1 T a tau b = T b := by unfold z_T1; rw [if_neg h]
def zp_q (D said w : Int → Int) (cm wt k : Int) : Prop :=
  0 ≤ said k ∧ 0 ≤ D k ∧
  ((said k / 1048576 = 0 ∧ D (k + 1) ≤ D k + 1) ∨ (said k / 1048576 = 1 ∧ said k % 1048576 ≤ 12 ∧ D (k + 1) ≤ D k + 1) ∨ (2 ≤ said k / 1048576 ∧ said k / 1048576 ≤ 9 ∧ 2 ≤ D k ∧ D (k + 1) ≤ D k - 1) ∨ (said k / 1048576 = 10 ∧ 1 ≤ D k ∧ D (k + 1) ≤ D k) ∨
    ((said k / 1048576 = 11 ∨ said k / 1048576 = 12) ∧ 1 ≤ D k ∧ D (k + 1) ≤ D k - 1 ∧ ((k < said k % 1048576 ∧ said k % 1048576 ≤ cm ∧ D (said k % 1048576) ≤ D k) ∨ ∃ j, 0 ≤ j ∧ j < wt ∧ (w j / 1048576 = 11 ∨ w j / 1048576 = 12) ∧ w j % 1048576 = k)))
/-- the clauses that are read -/
def zp_cl (D sf sh st : Int → Int) (cm sm : Int) : Prop := ∀ q, 0 ≤ q → q < sm → 0 ≤ sf q ∧ sf q ≤ sh q ∧ sh q ≤ st q ∧ st q ≤ cm ∧ D (sf q) = 0 ∧ D (sh q) = 0
/-- a law as it is kept: where codes are and how deep the stack is ahead of each -/
def zp_J (codes : Int → Int) (cs : Int) (cf ch ct : Int → Int) : Prop :=
  ∃ (D : Int → Int) (cm : Int), 0 ≤ cm ∧ cm ≤ 200 ∧ (∀ k, 0 ≤ k → k < cm → zp_q D codes (fun _ => 0) cm 0 k) ∧ 0 ≤ cs ∧ cs ≤ 14 ∧ zp_cl D cf ch ct cm cs
/-- steps as they are kept: a letter's value is a letter -/
def zr_J (kinds vals : Int → Int) : Prop := ∀ k, 0 ≤ k → k < 200 → 0 ≤ kinds k ∧ kinds k ≤ 12 ∧ 0 ≤ vals k ∧ vals k ≤ 99999 ∧ (kinds k = 1 → vals k ≤ 12)
/-- what stands in an array of ints -/
def zj_g (f : Nat → Value) : Int → Int := fun i => match f i.toNat with
  | .int x => x.toInt
  | _ => 0
def zj_c (T : zTp) (DA : Nat → ClassId) (H : Heap) (b : Nat) (g : Int → Int) : Prop := (T b).isSome = true ∧ ∃ (n : Nat) (f : Nat → Value), H[b]? = some (arrV (DA 0) n f) ∧ g = zj_g f
def zj_obj (T : zTp) (D : va_G) (DA : Nat → ClassId) (H : Heap) (a ci : Nat) : Prop :=
  (ci = 12 → ∃ (cs : Int32) (b1 b2 b3 b4 : Nat) (g1 g2 g3 g4 : Int → Int), z_sl H a (D.2 ci 13) (.int cs) ∧ (z_sl H a (D.2 ci 20) (.ref b1) ∧ zj_c T DA H b1 g1) ∧ (z_sl H a (D.2 ci 22) (.ref b2) ∧ zj_c T DA H b2 g2) ∧ (z_sl H a (D.2 ci 23) (.ref b3) ∧ zj_c T DA H b3 g3) ∧ (z_sl H a (D.2 ci 24) (.ref b4) ∧ zj_c T DA H b4 g4) ∧ zp_J g1 cs.toInt g2 g3 g4) ∧
  (ci = 4 → ∃ (b1 b2 : Nat) (g1 g2 : Int → Int), (z_sl H a (D.2 ci 0) (.ref b1) ∧ zj_c T DA H b1 g1) ∧ (z_sl H a (D.2 ci 1) (.ref b2) ∧ zj_c T DA H b2 g2) ∧ zr_J g1 g2)
def zj_refs (ci : Nat) : List Nat := cond (Nat.beq ci 12) [20, 22, 23, 24] (cond (Nat.beq ci 4) [0, 1] [])
def zj_slots (ci : Nat) : List Nat := cond (Nat.beq ci 12) [13, 20, 22, 23, 24] (cond (Nat.beq ci 4) [0, 1] [])
/-- a type that must not be stored to: an array of a law, or no one knows -/
def zj_prot (TY : List zTy) (t : Nat) : Bool := TY.any (fun ty => match ty with
  | .inl o => (zj_refs o.1).any (fun k => match o.2[k]? with
    | some (.inr (.inl u)) => Nat.beq u t
    | _ => true)
  | .inr _ => false)
/-- objects of a law's class share no array -/
def zj_q (D : va_G) (TY : List zTy) (T : zTp) (H : Heap) : Prop := ∀ a a' t t' ci fl fl', T a = some t → TY[t]? = some (.inl (ci, fl)) → T a' = some t' → TY[t']? = some (.inl (ci, fl')) → ∀ k ∈ zj_refs ci, ∀ b, z_sl H a (D.2 ci k) (.ref b) → z_sl H a' (D.2 ci k) (.ref b) → a = a'
def z_J (D : va_G) (DA : Nat → ClassId) (TY : List zTy) (T : zTp) (H : Heap) : Prop := (∀ a t ci fl, T a = some t → TY[t]? = some (.inl (ci, fl)) → zj_obj T D DA H a ci) ∧ zj_q D TY T H
section ZFROZEN
variable {OB : Nat → Nat} {D : va_G} {DA : Nat → ClassId} {cl : List vw_C} {TY : List zTy} {T T' : zTp} {H H1 : Heap}
theorem zj_c_kept {b : Nat} {g : Int → Int} (h : zj_c T DA H b g) (hT : (T b).isSome = true → (T' b).isSome = true) (hr : H1[b]? = H[b]?) : zj_c T' DA H1 b g := by
  obtain ⟨h1, n, f, h2, h3⟩ := h
  exact ⟨hT h1, n, f, by rw [hr]; exact h2, h3⟩
theorem zj_kept {a ci : Nat} (h : zj_obj T D DA H a ci) (hT : ∀ b, (T b).isSome = true → (T' b).isSome = true) (hs : ∀ k ∈ zj_slots ci, ∀ w, z_sl H a (D.2 ci k) w → z_sl H1 a (D.2 ci k) w) (hr : ∀ k ∈ zj_refs ci, ∀ b, z_sl H a (D.2 ci k) (.ref b) → (T b).isSome = true → H1[b]? = H[b]?) : zj_obj T' D DA H1 a ci := by
  refine ⟨fun e => ?_, fun e => ?_⟩
  · obtain ⟨cs, b1, b2, b3, b4, g1, g2, g3, g4, s0, ⟨s1, c1⟩, ⟨s2, c2⟩, ⟨s3, c3⟩, ⟨s4, c4⟩, hJ⟩ := h.1 e
    subst e
    exact ⟨cs, b1, b2, b3, b4, g1, g2, g3, g4, hs 13 (by decide) _ s0, ⟨hs 20 (by decide) _ s1, zj_c_kept c1 (hT _) (hr 20 (by decide) _ s1 c1.1)⟩, ⟨hs 22 (by decide) _ s2, zj_c_kept c2 (hT _) (hr 22 (by decide) _ s2 c2.1)⟩, ⟨hs 23 (by decide) _ s3, zj_c_kept c3 (hT _) (hr 23 (by decide) _ s3 c3.1)⟩, ⟨hs 24 (by decide) _ s4, zj_c_kept c4 (hT _) (hr 24 (by decide) _ s4 c4.1)⟩, hJ⟩
  · obtain ⟨b1, b2, g1, g2, ⟨s1, c1⟩, ⟨s2, c2⟩, hJ⟩ := h.2 e
    subst e
    exact ⟨b1, b2, g1, g2, ⟨hs 0 (by decide) _ s1, zj_c_kept c1 (hT _) (hr 0 (by decide) _ s1 c1.1)⟩, ⟨hs 1 (by decide) _ s2, zj_c_kept c2 (hT _) (hr 1 (by decide) _ s2 c2.1)⟩, hJ⟩
/-- a field of a typed object by its type -/
theorem zj_fld {a t ci k : Nat} {fl : List zV} {w : Value} (hb : ∀ a t, T a = some t → ∃ ty, TY[t]? = some ty ∧ z_cell OB D DA cl T H a ty) (ha : T a = some t) (hty : TY[t]? = some (.inl (ci, fl))) {c : zV} (hc : fl[k]? = some c) (hw : z_sl H a (D.2 ci k) w) : z_v OB T c w := by
  obtain ⟨ty, h1, h2⟩ := hb a t ha
  rw [hty] at h1
  cases h1
  obtain ⟨r, q1, q2, V, ⟨cell, q3, q4, q5, q6⟩, q7⟩ := h2
  have hlt : k < r.2.2 := by rw [← q2]; exact (List.getElem?_eq_some_iff.mp hc).1
  obtain ⟨cell2, x1, x2, x3⟩ := hw
  rw [q3] at x1
  cases x1
  have := q6 k hlt
  rw [x3] at this
  cases this
  exact q7 k c hc
theorem zj_prot_ok {t t0 ci k : Nat} {fl : List zV} (h : zj_prot TY t0 = false) (hty : TY[t]? = some (.inl (ci, fl))) (hk : k ∈ zj_refs ci) : ∃ u, fl[k]? = some (.inr (.inl u)) ∧ u ≠ t0 := by
  unfold zj_prot at h
  have h1 := List.any_eq_false.mp h _ (List.mem_of_getElem? hty)
  have h1 : ¬ (zj_refs ci).any (fun k => match fl[k]? with
    | some (.inr (.inl u)) => Nat.beq u t0
    | _ => true) = true := h1
  have h2 := List.any_eq_false.mp (by simpa using h1) k hk
  split at h2
  · rename_i u hu
    exact ⟨u, hu, fun e => h2 (by rw [e]; exact Nat.beq_refl _)⟩
  · exact absurd rfl h2
theorem zj_has {a ci k : Nat} (h : zj_obj T D DA H a ci) (hk : k ∈ zj_refs ci) : ∃ b : Nat, z_sl H a (D.2 ci k) (.ref b) := by
  by_cases e : ci = 12
  · subst e
    obtain ⟨cs, b1, b2, b3, b4, g1, g2, g3, g4, s0, ⟨s1, c1⟩, ⟨s2, c2⟩, ⟨s3, c3⟩, ⟨s4, c4⟩, hJ⟩ := h.1 rfl
    have hk : k ∈ [20, 22, 23, 24] := hk
    simp only [List.mem_cons, List.not_mem_nil, or_false] at hk
    rcases hk with rfl | rfl | rfl | rfl
    · exact ⟨_, s1⟩
    · exact ⟨_, s2⟩
    · exact ⟨_, s3⟩
    · exact ⟨_, s4⟩
  · by_cases e4 : ci = 4
    · subst e4
      obtain ⟨b1, b2, g1, g2, ⟨s1, c1⟩, ⟨s2, c2⟩, hJ⟩ := h.2 rfl
      have hk : k ∈ [0, 1] := hk
      simp only [List.mem_cons, List.not_mem_nil, or_false] at hk
      rcases hk with rfl | rfl
      · exact ⟨_, s1⟩
      · exact ⟨_, s2⟩
    · exfalso
      have n1 : Nat.beq ci 12 = false := by
        cases hb : Nat.beq ci 12 with
        | false => rfl
        | true => exact absurd (Nat.eq_of_beq_eq_true hb) e
      have n2 : Nat.beq ci 4 = false := by
        cases hb : Nat.beq ci 4 with
        | false => rfl
        | true => exact absurd (Nat.eq_of_beq_eq_true hb) e4
      unfold zj_refs at hk
      rw [n1, n2] at hk
      exact absurd hk List.not_mem_nil
theorem zj_sub {ci k : Nat} (h : k ∈ zj_refs ci) : k ∈ zj_slots ci := by
  unfold zj_refs at h
  unfold zj_slots
  cases h1 : Nat.beq ci 12 with
  | true =>
    rw [h1] at h
    exact List.mem_cons_of_mem _ h
  | false =>
    rw [h1] at h
    exact h
theorem zj_fun {a k : Nat} {v w : Value} (h : z_sl H a k v) (h2 : z_sl H a k w) : v = w := by
  obtain ⟨c1, e1, _, e3⟩ := h
  obtain ⟨c2, f1, _, f3⟩ := h2
  rw [e1] at f1
  cases f1
  rw [e3] at f3
  exact Option.some.inj f3
/-- what is kept forward is kept backward -/
theorem zj_back {a ci k b : Nat} (h : zj_obj T D DA H a ci) (hk : k ∈ zj_refs ci) (hs : ∀ k ∈ zj_slots ci, ∀ w, z_sl H a (D.2 ci k) w → z_sl H1 a (D.2 ci k) w) (h1 : z_sl H1 a (D.2 ci k) (.ref b)) : z_sl H a (D.2 ci k) (.ref b) := by
  obtain ⟨b0, h0⟩ := zj_has h hk
  have := zj_fun (hs k (zj_sub hk) _ h0) h1
  cases this
  exact h0
theorem zj_q_kept (hJ : z_J D DA TY T H) (hs : ∀ a t ci fl, T a = some t → TY[t]? = some (.inl (ci, fl)) → ∀ k ∈ zj_slots ci, ∀ w, z_sl H a (D.2 ci k) w → z_sl H1 a (D.2 ci k) w) : zj_q D TY T H1 := by
  intro a a' t t' ci fl fl' h1 h2 h3 h4 k hk b h5 h6
  exact hJ.2 a a' t t' ci fl fl' h1 h2 h3 h4 k hk b (zj_back (hJ.1 a t ci fl h1 h2) hk (hs a t ci fl h1 h2) h5) (zj_back (hJ.1 a' t' ci fl' h3 h4) hk (hs a' t' ci fl' h3 h4) h6)
/-- one typed cell is written that is no law's -/
theorem zJ_set {a0 t0 : Nat} (hJ : z_J D DA TY T H) (hb : ∀ a t, T a = some t → ∃ ty, TY[t]? = some ty ∧ z_cell OB D DA cl T H a ty) (ht0 : T a0 = some t0) (hp : zj_prot TY t0 = false) (oq : ∀ b : Nat, b ≠ a0 → H1[b]? = H[b]?)
    (h0 : ∀ ci fl, TY[t0]? = some (.inl (ci, fl)) → ∀ k ∈ zj_slots ci, ∀ w, z_sl H a0 (D.2 ci k) w → z_sl H1 a0 (D.2 ci k) w) : z_J D DA TY T H1 := by
  have hs : ∀ a t ci fl, T a = some t → TY[t]? = some (.inl (ci, fl)) → ∀ k ∈ zj_slots ci, ∀ w, z_sl H a (D.2 ci k) w → z_sl H1 a (D.2 ci k) w := by
    intro a t ci fl ha hty k hk w hw
    by_cases e : a = a0
    · subst e
      rw [ht0] at ha
      cases ha
      exact h0 ci fl hty k hk w hw
    · obtain ⟨cell, x1, x2, x3⟩ := hw
      exact ⟨cell, by rw [oq a e]; exact x1, x2, x3⟩
  refine ⟨fun a t ci fl ha hty => ?_, zj_q_kept hJ hs⟩
  refine zj_kept (hJ.1 a t ci fl ha hty) (fun _ h => h) (fun k hk w hw => hs a t ci fl ha hty k hk w hw) (fun k hk b hw _ => oq b (fun e => ?_))
  · obtain ⟨u, u1, u2⟩ := zj_prot_ok hp hty hk
    obtain ⟨b2, e2, hb2⟩ := zj_fld hb ha hty u1 hw
    cases e2
    rw [e, ht0] at hb2
    exact u2 (Option.some.inj hb2).symm
/-- a cell without a type is written -/
theorem zJ_raw {a0 : Nat} (hJ : z_J D DA TY T H) (ht0 : T a0 = none) (oq : ∀ b : Nat, b ≠ a0 → H1[b]? = H[b]?) : z_J D DA TY T H1 := by
  have hs : ∀ a t ci fl, T a = some t → TY[t]? = some (.inl (ci, fl)) → ∀ k ∈ zj_slots ci, ∀ w, z_sl H a (D.2 ci k) w → z_sl H1 a (D.2 ci k) w := by
    intro a t ci fl ha hty k hk w hw
    obtain ⟨cell, x1, x2, x3⟩ := hw
    exact ⟨cell, by rw [oq a (fun e => by rw [e, ht0] at ha; cases ha)]; exact x1, x2, x3⟩
  refine ⟨fun a t ci fl ha hty => ?_, zj_q_kept hJ hs⟩
  exact zj_kept (hJ.1 a t ci fl ha hty) (fun _ h => h) (hs a t ci fl ha hty) (fun k hk b hw hs => oq b (fun e => by rw [e, ht0] at hs; cases hs))
/-- a cell gets a type; the heap may grow -/
theorem zJ_grow {a0 tau : Nat} (hJ : z_J D DA TY T H) (ht0 : T a0 = none) (hlt : ∀ a t, T a = some t → a < H.size) (oq : ∀ b : Nat, b < H.size → b ≠ a0 → H1[b]? = H[b]?) (hn : ∀ ci fl, TY[tau]? = some (.inl (ci, fl)) → ci ≠ 12 ∧ ci ≠ 4) : z_J D DA TY (z_T1 T a0 tau) H1 := by
  have hs : ∀ a t ci fl, T a = some t → TY[t]? = some (.inl (ci, fl)) → ∀ k ∈ zj_slots ci, ∀ w, z_sl H a (D.2 ci k) w → z_sl H1 a (D.2 ci k) w := by
    intro a t ci fl ha hty k hk w hw
    obtain ⟨cell, x1, x2, x3⟩ := hw
    exact ⟨cell, by rw [oq a (hlt a t ha) (fun e => by rw [e, ht0] at ha; cases ha)]; exact x1, x2, x3⟩
  have nil : ∀ {ci k : Nat} {fl : List zV}, TY[tau]? = some (.inl (ci, fl)) → k ∈ zj_refs ci → False := by
    intro ci k fl hty hk
    obtain ⟨e, e4⟩ := hn ci fl hty
    have n1 : Nat.beq ci 12 = false := by
      cases hb : Nat.beq ci 12 with
      | false => rfl
      | true => exact absurd (Nat.eq_of_beq_eq_true hb) e
    have n2 : Nat.beq ci 4 = false := by
      cases hb : Nat.beq ci 4 with
      | false => rfl
      | true => exact absurd (Nat.eq_of_beq_eq_true hb) e4
    unfold zj_refs at hk
    rw [n1, n2] at hk
    exact absurd hk List.not_mem_nil
  refine ⟨fun a t ci fl ha hty => ?_, fun a a' t t' ci fl fl' h1 h2 h3 h4 k hk b h5 h6 => ?_⟩
  · by_cases e : a = a0
    · subst e
      rw [z_T1_at] at ha
      cases ha
      obtain ⟨e1, e2⟩ := hn ci fl hty
      exact ⟨fun e => absurd e e1, fun e => absurd e e2⟩
    · rw [z_T1_ne e] at ha
      have lt : ∀ b, (T b).isSome = true → b < H.size ∧ b ≠ a0 := by
        intro b hb
        cases hT : T b with
        | none => rw [hT] at hb; cases hb
        | some u => exact ⟨hlt b u hT, fun e2 => by rw [e2, ht0] at hT; cases hT⟩
      refine zj_kept (hJ.1 a t ci fl ha hty) (fun b hb => ?_) (hs a t ci fl ha hty) (fun k hk b hw hs => oq b (lt b hs).1 (lt b hs).2)
      rw [z_T1_ne (lt b hb).2]; exact hb
  · by_cases e : a = a0
    · rw [e, z_T1_at] at h1
      cases h1
      exact absurd (nil h2 hk) (fun h => h)
    · by_cases e' : a' = a0
      · rw [e', z_T1_at] at h3
        cases h3
        exact absurd (nil h4 hk) (fun h => h)
      · rw [z_T1_ne e] at h1
        rw [z_T1_ne e'] at h3
        exact zj_q_kept hJ hs a a' t t' ci fl fl' h1 h2 h3 h4 k hk b h5 h6
/-- other types, of the same classes -/
theorem zJ_map {f : Nat → Nat} (hJ : z_J D DA TY T H) (hf : ∀ a t, T a = some t → ∀ ci fl, TY[f t]? = some (.inl (ci, fl)) → ∃ fl0, TY[t]? = some (.inl (ci, fl0))) : z_J D DA TY (fun b => (T b).map f) H := by
  have back : ∀ a t, (T a).map f = some t → ∃ u, T a = some u ∧ t = f u := by
    intro a t h
    cases hT : T a with
    | none => simp [hT] at h
    | some u => exact ⟨u, rfl, by simp [hT] at h; exact h.symm⟩
  refine ⟨fun a t ci fl ha hty => ?_, fun a a' t t' ci fl fl' h1 h2 h3 h4 k hk b h5 h6 => ?_⟩
  · obtain ⟨u, hT, rfl⟩ := back a t ha
    obtain ⟨fl0, h0⟩ := hf a u hT ci fl hty
    refine zj_kept (hJ.1 a u ci fl0 hT h0) (fun b hb => ?_) (fun k hk w hw => hw) (fun k hk b hw hs => rfl)
    cases hTb : T b with
    | none => rw [hTb] at hb; cases hb
    | some v => simp [hTb]
  · obtain ⟨u, u1, rfl⟩ := back a t h1
    obtain ⟨u', u1', rfl⟩ := back a' t' h3
    obtain ⟨f0, f1⟩ := hf a u u1 _ _ h2
    obtain ⟨f0', f1'⟩ := hf a' u' u1' _ _ h4
    exact hJ.2 a a' u u' ci f0 f0' u1 f1 u1' f1' k hk b h5 h6
/-- the heap grows -/
theorem zJ_ext (hJ : z_J D DA TY T H) (hlt : ∀ a t, T a = some t → a < H.size) (oq : ∀ b : Nat, b < H.size → H1[b]? = H[b]?) : z_J D DA TY T H1 := by
  have hs : ∀ a t ci fl, T a = some t → TY[t]? = some (.inl (ci, fl)) → ∀ k ∈ zj_slots ci, ∀ w, z_sl H a (D.2 ci k) w → z_sl H1 a (D.2 ci k) w := by
    intro a t ci fl ha hty k hk w hw
    obtain ⟨cell, x1, x2, x3⟩ := hw
    exact ⟨cell, by rw [oq a (hlt a t ha)]; exact x1, x2, x3⟩
  refine ⟨fun a t ci fl ha hty => ?_, zj_q_kept hJ hs⟩
  refine zj_kept (hJ.1 a t ci fl ha hty) (fun _ h => h) (hs a t ci fl ha hty) (fun k hk b hw hs => ?_)
  cases hT : T b with
  | none => rw [hT] at hs; cases hs
  | some u => exact oq b (hlt b u hT)
end ZFROZEN
