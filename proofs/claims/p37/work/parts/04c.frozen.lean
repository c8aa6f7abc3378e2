/-! What is kept of laws in every typed heap. -/
def z_T1 (T : zTp) (a t : Nat) : zTp := fun q => if q = a then some t else T q
theorem z_T1_at {T : zTp} {a tau : Nat} : z_T1 T a tau a = some tau := by unfold z_T1; rw [if_pos rfl]
theorem z_T1_ne {T : zTp} {a tau b : Nat} (h : b ≠ a) : z_T1 T a tau b = T b := by unfold z_T1; rw [if_neg h]
def zp_q (D said w : Int → Int) (cm wt k : Int) : Prop :=
  0 ≤ said k ∧ 0 ≤ D k ∧
  ((said k / 1048576 = 0 ∧ D (k + 1) ≤ D k + 1) ∨ (said k / 1048576 = 1 ∧ said k % 1048576 ≤ 12 ∧ D (k + 1) ≤ D k + 1) ∨ (2 ≤ said k / 1048576 ∧ said k / 1048576 ≤ 9 ∧ 2 ≤ D k ∧ D (k + 1) ≤ D k - 1) ∨ (said k / 1048576 = 10 ∧ 1 ≤ D k ∧ D (k + 1) ≤ D k) ∨
    ((said k / 1048576 = 11 ∨ said k / 1048576 = 12) ∧ 1 ≤ D k ∧ D (k + 1) ≤ D k - 1 ∧ ((k < said k % 1048576 ∧ said k % 1048576 ≤ cm ∧ D (said k % 1048576) ≤ D k) ∨ ∃ j, 0 ≤ j ∧ j < wt ∧ (w j / 1048576 = 11 ∨ w j / 1048576 = 12) ∧ w j % 1048576 = k)))
/-- the clauses that are read -/
def zp_cl (D sf sh st : Int → Int) (cm sm : Int) : Prop := ∀ q, 0 ≤ q → q < sm → 0 ≤ sf q ∧ sf q ≤ sh q ∧ sh q ≤ st q ∧ st q ≤ cm ∧ D (sf q) = 0 ∧ D (sh q) = 0
/-- a law as it is kept: where codes are and how deep the stack is ahead of each -/
def zp_J (codes : Int → Int) (cs : Int) (cf ch ct : Int → Int) : Prop :=
  ∃ (D : Int → Int) (cm : Int), 0 ≤ cm ∧ cm ≤ 200 ∧ (∀ k, 0 ≤ k → k < cm → zp_q D codes (fun _ => 0) cm 0 k) ∧ 0 ≤ cs ∧ cs ≤ 14 ∧ zp_cl D cf ch ct cm cs
/-- steps as they are kept: a letter's value is a letter -/
def zr_J (kinds vals : Int → Int) : Prop := ∀ k, 0 ≤ k → k < 200 → 0 ≤ kinds k ∧ kinds k ≤ 12 ∧ 0 ≤ vals k ∧ vals k ≤ 99999 ∧ (kinds k = 1 → vals k ≤ 12)
/-- what stands in an array of ints -/
def zj_g (f : Nat → Value) : Int → Int := fun i => match f i.toNat with
  | .int x => x.toInt
  | _ => 0
def zj_c (T : zTp) (DA : Nat → ClassId) (H : Heap) (b : Nat) (g : Int → Int) : Prop := (T b).isSome = true ∧ ∃ (n : Nat) (f : Nat → Value), H[b]? = some (arrV (DA 0) n f) ∧ g = zj_g f
def zj_obj (T : zTp) (D : va_G) (DA : Nat → ClassId) (H : Heap) (a ci : Nat) : Prop :=
  (ci = 12 → ∃ (cs : Int32) (b1 b2 b3 b4 : Nat) (g1 g2 g3 g4 : Int → Int), z_sl H a (D.2 ci 13) (.int cs) ∧ (z_sl H a (D.2 ci 20) (.ref b1) ∧ zj_c T DA H b1 g1) ∧ (z_sl H a (D.2 ci 22) (.ref b2) ∧ zj_c T DA H b2 g2) ∧ (z_sl H a (D.2 ci 23) (.ref b3) ∧ zj_c T DA H b3 g3) ∧ (z_sl H a (D.2 ci 24) (.ref b4) ∧ zj_c T DA H b4 g4) ∧ zp_J g1 cs.toInt g2 g3 g4) ∧
  (ci = 4 → ∃ (b1 b2 : Nat) (g1 g2 : Int → Int), (z_sl H a (D.2 ci 0) (.ref b1) ∧ zj_c T DA H b1 g1) ∧ (z_sl H a (D.2 ci 1) (.ref b2) ∧ zj_c T DA H b2 g2) ∧ zr_J g1 g2)
def zj_refs (ci : Nat) : List Nat := cond (Nat.beq ci 12) [20, 22, 23, 24] (cond (Nat.beq ci 4) [0, 1] [])
def zj_slots (ci : Nat) : List Nat := cond (Nat.beq ci 12) [13, 20, 22, 23, 24] (cond (Nat.beq ci 4) [0, 1] [])
/-- a type that must not be stored to: an array of a law, or no one knows -/
def zj_prot (TY : List zTy) (t : Nat) : Bool := TY.any (fun ty => match ty with
  | .inl o => (zj_refs o.1).any (fun k => match o.2[k]? with
    | some (.inr (.inl u)) => Nat.beq u t
    | _ => true)
  | .inr _ => false)
/-- objects of a law's class share no array -/
def zj_q (D : va_G) (TY : List zTy) (T : zTp) (H : Heap) : Prop := ∀ a a' t t' ci fl fl', T a = some t → TY[t]? = some (.inl (ci, fl)) → T a' = some t' → TY[t']? = some (.inl (ci, fl')) → ∀ k ∈ zj_refs ci, ∀ b, z_sl H a (D.2 ci k) (.ref b) → z_sl H a' (D.2 ci k) (.ref b) → a = a'
/-- the slot that a claim speaks of -/
def zc_s (D : va_G) (q : (Nat × Nat) ⊕ Nat) : Nat := match q with
  | .inl f => D.2 f.1 f.2
  | .inr j => j
/-- claims: where the flag is of its type, the named cell is of the type and its slot holds the int of that name -/
def zj_cl (OB : Nat → Nat) (D : va_G) (T : zTp) (H : Heap) : Prop := ∀ q ∈ zc_CL, T (OB q.2.2.2.2.1) = some q.2.2.2.2.2 → T (OB q.2.1) = some q.1 ∧ z_sl H (OB q.2.1) (zc_s D q.2.2.1) (.int (Int32.ofNat (OB q.2.2.2.1)))
/-- a type that is no flag's -/
def zc_un (t : Nat) : Bool := zc_CL.all (fun q => !(Nat.beq q.2.2.2.2.2 t))
theorem zc_un_ok {t : Nat} (h : zc_un t = true) : ∀ q ∈ zc_CL, q.2.2.2.2.2 ≠ t := fun q hq e => by
  have h1 := List.all_eq_true.mp h q hq
  rw [e, Nat.beq_refl] at h1
  cases h1
/-- a type of whose cells nothing is claimed -/
def zc_nc (t : Nat) : Bool := zc_CL.all (fun q => !(Nat.beq q.1 t))
theorem zc_nc_ok {t : Nat} (h : zc_nc t = true) : ∀ q ∈ zc_CL, q.1 ≠ t := fun q hq e => by
  have h1 := List.all_eq_true.mp h q hq
  rw [e, Nat.beq_refl] at h1
  cases h1
def zc_seq (a b : (Nat × Nat) ⊕ Nat) : Bool := match a, b with
  | .inl f, .inl g => Nat.beq f.1 g.1 && Nat.beq f.2 g.2
  | .inr i, .inr j => Nat.beq i j
  | _, _ => false
theorem zc_seq_ok {a b : (Nat × Nat) ⊕ Nat} (h : zc_seq a b = true) : a = b := by
  match a, b, h with
  | .inl (f1, f2), .inl (g1, g2), h =>
    have h : (Nat.beq f1 g1 && Nat.beq f2 g2) = true := h
    rw [Bool.and_eq_true] at h
    rw [z_beq h.1, z_beq h.2]
  | .inr i, .inr j, h => rw [z_beq (show Nat.beq i j = true from h)]
/-- what is claimed by a flag's image is claimed by the flag -/
def zc_mpk (n : Nat) (f : Nat → Nat) : Bool := zc_CL.all (fun q => (List.range n).all (fun t => !(Nat.beq (f t) q.2.2.2.2.2) || zc_CL.any (fun p => Nat.beq p.2.2.2.2.2 t && Nat.beq p.2.2.2.2.1 q.2.2.2.2.1 && (Nat.beq p.2.1 q.2.1 && Nat.beq (f p.1) q.1) && (zc_seq p.2.2.1 q.2.2.1 && Nat.beq p.2.2.2.1 q.2.2.2.1))))
theorem zc_mpk_ok {n : Nat} {f : Nat → Nat} (h : zc_mpk n f = true) {q : Nat × Nat × ((Nat × Nat) ⊕ Nat) × Nat × Nat × Nat} (hq : q ∈ zc_CL) {t : Nat} (ht : t < n) (e : f t = q.2.2.2.2.2) : ∃ t0, (t0, q.2.1, q.2.2.1, q.2.2.2.1, q.2.2.2.2.1, t) ∈ zc_CL ∧ f t0 = q.1 := by
  have h1 := List.all_eq_true.mp (List.all_eq_true.mp h q hq) t (List.mem_range.mpr ht)
  rw [e, Nat.beq_refl] at h1
  simp only [Bool.not_true, Bool.false_or] at h1
  obtain ⟨p, hp, h2⟩ := List.any_eq_true.mp h1
  simp only [Bool.and_eq_true] at h2
  obtain ⟨⟨⟨k1, k2⟩, k3, k4⟩, k5, k6⟩ := h2
  obtain ⟨p1, p2, p3, p4, p5, p6⟩ := p
  obtain ⟨q1, q2, q3, q4, q5, q6⟩ := q
  have f1 : p6 = t := z_beq k1
  have f2 : p5 = q5 := z_beq k2
  have f3 : p2 = q2 := z_beq k3
  have f4 : f p1 = q1 := z_beq k4
  have f5 : p3 = q3 := zc_seq_ok k5
  have f6 : p4 = q4 := z_beq k6
  subst f1; subst f2; subst f3; subst f5; subst f6
  exact ⟨p1, hp, f4⟩
def z_J (OB : Nat → Nat) (D : va_G) (DA : Nat → ClassId) (TY : List zTy) (T : zTp) (H : Heap) : Prop := (∀ a t ci fl, T a = some t → TY[t]? = some (.inl (ci, fl)) → zj_obj T D DA H a ci) ∧ zj_q D TY T H ∧ zj_cl OB D T H
section ZFROZEN
variable {OB : Nat → Nat} {D : va_G} {DA : Nat → ClassId} {cl : List vw_C} {TY : List zTy} {T T' : zTp} {H H1 : Heap}
theorem zj_c_kept {b : Nat} {g : Int → Int} (h : zj_c T DA H b g) (hT : (T b).isSome = true → (T' b).isSome = true) (hr : H1[b]? = H[b]?) : zj_c T' DA H1 b g := by
  obtain ⟨h1, n, f, h2, h3⟩ := h
  exact ⟨hT h1, n, f, by rw [hr]; exact h2, h3⟩
theorem zj_kept {a ci : Nat} (h : zj_obj T D DA H a ci) (hT : ∀ b, (T b).isSome = true → (T' b).isSome = true) (hs : ∀ k ∈ zj_slots ci, ∀ w, z_sl H a (D.2 ci k) w → z_sl H1 a (D.2 ci k) w) (hr : ∀ k ∈ zj_refs ci, ∀ b, z_sl H a (D.2 ci k) (.ref b) → (T b).isSome = true → H1[b]? = H[b]?) : zj_obj T' D DA H1 a ci := by
  refine ⟨fun e => ?_, fun e => ?_⟩
  · obtain ⟨cs, b1, b2, b3, b4, g1, g2, g3, g4, s0, ⟨s1, c1⟩, ⟨s2, c2⟩, ⟨s3, c3⟩, ⟨s4, c4⟩, hJ⟩ := h.1 e
    subst e
    exact ⟨cs, b1, b2, b3, b4, g1, g2, g3, g4, hs 13 (by decide) _ s0, ⟨hs 20 (by decide) _ s1, zj_c_kept c1 (hT _) (hr 20 (by decide) _ s1 c1.1)⟩, ⟨hs 22 (by decide) _ s2, zj_c_kept c2 (hT _) (hr 22 (by decide) _ s2 c2.1)⟩, ⟨hs 23 (by decide) _ s3, zj_c_kept c3 (hT _) (hr 23 (by decide) _ s3 c3.1)⟩, ⟨hs 24 (by decide) _ s4, zj_c_kept c4 (hT _) (hr 24 (by decide) _ s4 c4.1)⟩, hJ⟩
  · obtain ⟨b1, b2, g1, g2, ⟨s1, c1⟩, ⟨s2, c2⟩, hJ⟩ := h.2 e
    subst e
    exact ⟨b1, b2, g1, g2, ⟨hs 0 (by decide) _ s1, zj_c_kept c1 (hT _) (hr 0 (by decide) _ s1 c1.1)⟩, ⟨hs 1 (by decide) _ s2, zj_c_kept c2 (hT _) (hr 1 (by decide) _ s2 c2.1)⟩, hJ⟩
/-- a field of a typed object by its type -/
theorem zj_fld {a t ci k : Nat} {fl : List zV} {w : Value} (hb : ∀ a t, T a = some t → ∃ ty, TY[t]? = some ty ∧ z_cell OB D DA cl T H a ty) (ha : T a = some t) (hty : TY[t]? = some (.inl (ci, fl))) {c : zV} (hc : fl[k]? = some c) (hw : z_sl H a (D.2 ci k) w) : z_v OB T c w := by
  obtain ⟨ty, h1, h2⟩ := hb a t ha
  rw [hty] at h1
  cases h1
  obtain ⟨r, q1, q2, V, ⟨cell, q3, q4, q5, q6⟩, q7⟩ := h2
  have hlt : k < r.2.2 := by rw [← q2]; exact (List.getElem?_eq_some_iff.mp hc).1
  obtain ⟨cell2, x1, x2, x3⟩ := hw
  rw [q3] at x1
  cases x1
  have := q6 k hlt
  rw [x3] at this
  cases this
  exact q7 k c hc
theorem zj_prot_ok {t t0 ci k : Nat} {fl : List zV} (h : zj_prot TY t0 = false) (hty : TY[t]? = some (.inl (ci, fl))) (hk : k ∈ zj_refs ci) : ∃ u, fl[k]? = some (.inr (.inl u)) ∧ u ≠ t0 := by
  unfold zj_prot at h
  have h1 := List.any_eq_false.mp h _ (List.mem_of_getElem? hty)
  have h1 : ¬ (zj_refs ci).any (fun k => match fl[k]? with
    | some (.inr (.inl u)) => Nat.beq u t0
    | _ => true) = true := h1
  have h2 := List.any_eq_false.mp (by simpa using h1) k hk
  split at h2
  · rename_i u hu
    exact ⟨u, hu, fun e => h2 (by rw [e]; exact Nat.beq_refl _)⟩
  · exact absurd rfl h2
theorem zj_has {a ci k : Nat} (h : zj_obj T D DA H a ci) (hk : k ∈ zj_refs ci) : ∃ b : Nat, z_sl H a (D.2 ci k) (.ref b) := by
  by_cases e : ci = 12
  · subst e
    obtain ⟨cs, b1, b2, b3, b4, g1, g2, g3, g4, s0, ⟨s1, c1⟩, ⟨s2, c2⟩, ⟨s3, c3⟩, ⟨s4, c4⟩, hJ⟩ := h.1 rfl
    have hk : k ∈ [20, 22, 23, 24] := hk
    simp only [List.mem_cons, List.not_mem_nil, or_false] at hk
    rcases hk with rfl | rfl | rfl | rfl
    · exact ⟨_, s1⟩
    · exact ⟨_, s2⟩
    · exact ⟨_, s3⟩
    · exact ⟨_, s4⟩
  · by_cases e4 : ci = 4
    · subst e4
      obtain ⟨b1, b2, g1, g2, ⟨s1, c1⟩, ⟨s2, c2⟩, hJ⟩ := h.2 rfl
      have hk : k ∈ [0, 1] := hk
      simp only [List.mem_cons, List.not_mem_nil, or_false] at hk
      rcases hk with rfl | rfl
      · exact ⟨_, s1⟩
      · exact ⟨_, s2⟩
    · exfalso
      have n1 : Nat.beq ci 12 = false := by
        cases hb : Nat.beq ci 12 with
        | false => rfl
        | true => exact absurd (Nat.eq_of_beq_eq_true hb) e
      have n2 : Nat.beq ci 4 = false := by
        cases hb : Nat.beq ci 4 with
        | false => rfl
        | true => exact absurd (Nat.eq_of_beq_eq_true hb) e4
      unfold zj_refs at hk
      rw [n1, n2] at hk
      exact absurd hk List.not_mem_nil
theorem zj_sub {ci k : Nat} (h : k ∈ zj_refs ci) : k ∈ zj_slots ci := by
  unfold zj_refs at h
  unfold zj_slots
  cases h1 : Nat.beq ci 12 with
  | true =>
    rw [h1] at h
    exact List.mem_cons_of_mem _ h
  | false =>
    rw [h1] at h
    exact h
theorem zj_fun {a k : Nat} {v w : Value} (h : z_sl H a k v) (h2 : z_sl H a k w) : v = w := by
  obtain ⟨c1, e1, _, e3⟩ := h
  obtain ⟨c2, f1, _, f3⟩ := h2
  rw [e1] at f1
  cases f1
  rw [e3] at f3
  exact Option.some.inj f3
/-- what is kept forward is kept backward -/
theorem zj_back {a ci k b : Nat} (h : zj_obj T D DA H a ci) (hk : k ∈ zj_refs ci) (hs : ∀ k ∈ zj_slots ci, ∀ w, z_sl H a (D.2 ci k) w → z_sl H1 a (D.2 ci k) w) (h1 : z_sl H1 a (D.2 ci k) (.ref b)) : z_sl H a (D.2 ci k) (.ref b) := by
  obtain ⟨b0, h0⟩ := zj_has h hk
  have := zj_fun (hs k (zj_sub hk) _ h0) h1
  cases this
  exact h0
theorem zj_q_kept (hJ : z_J OB D DA TY T H) (hs : ∀ a t ci fl, T a = some t → TY[t]? = some (.inl (ci, fl)) → ∀ k ∈ zj_slots ci, ∀ w, z_sl H a (D.2 ci k) w → z_sl H1 a (D.2 ci k) w) : zj_q D TY T H1 := by
  intro a a' t t' ci fl fl' h1 h2 h3 h4 k hk b h5 h6
  exact hJ.2.1 a a' t t' ci fl fl' h1 h2 h3 h4 k hk b (zj_back (hJ.1 a t ci fl h1 h2) hk (hs a t ci fl h1 h2) h5) (zj_back (hJ.1 a' t' ci fl' h3 h4) hk (hs a' t' ci fl' h3 h4) h6)
/-- one typed cell is written that is no law's -/
theorem zJ_set {a0 t0 : Nat} (hJ : z_J OB D DA TY T H) (hb : ∀ a t, T a = some t → ∃ ty, TY[t]? = some ty ∧ z_cell OB D DA cl T H a ty) (ht0 : T a0 = some t0) (hp : zj_prot TY t0 = false) (oq : ∀ b : Nat, b ≠ a0 → H1[b]? = H[b]?)
    (h0 : ∀ ci fl, TY[t0]? = some (.inl (ci, fl)) → ∀ k ∈ zj_slots ci, ∀ w, z_sl H a0 (D.2 ci k) w → z_sl H1 a0 (D.2 ci k) w)
    (hcl : ∀ q ∈ zc_CL, q.1 = t0 → OB q.2.1 = a0 → z_sl H a0 (zc_s D q.2.2.1) (.int (Int32.ofNat (OB q.2.2.2.1))) → z_sl H1 a0 (zc_s D q.2.2.1) (.int (Int32.ofNat (OB q.2.2.2.1)))) : z_J OB D DA TY T H1 := by
  have hs : ∀ a t ci fl, T a = some t → TY[t]? = some (.inl (ci, fl)) → ∀ k ∈ zj_slots ci, ∀ w, z_sl H a (D.2 ci k) w → z_sl H1 a (D.2 ci k) w := by
    intro a t ci fl ha hty k hk w hw
    by_cases e : a = a0
    · subst e
      rw [ht0] at ha
      cases ha
      exact h0 ci fl hty k hk w hw
    · obtain ⟨cell, x1, x2, x3⟩ := hw
      exact ⟨cell, by rw [oq a e]; exact x1, x2, x3⟩
  refine ⟨fun a t ci fl ha hty => ?_, zj_q_kept hJ hs, fun q hq hT => ?_⟩
  rotate_left
  · obtain ⟨hn, old⟩ := hJ.2.2 q hq hT
    refine ⟨hn, ?_⟩
    by_cases e : OB q.2.1 = a0
    · rw [e] at hn old ⊢
      rw [ht0] at hn
      exact hcl q hq (Option.some.inj hn).symm e old
    · obtain ⟨cell, x1, x2⟩ := old
      exact ⟨cell, by rw [oq _ e]; exact x1, x2⟩
  refine zj_kept (hJ.1 a t ci fl ha hty) (fun _ h => h) (fun k hk w hw => hs a t ci fl ha hty k hk w hw) (fun k hk b hw _ => oq b (fun e => ?_))
  · obtain ⟨u, u1, u2⟩ := zj_prot_ok hp hty hk
    obtain ⟨b2, e2, hb2⟩ := zj_fld hb ha hty u1 hw
    cases e2
    rw [e, ht0] at hb2
    exact u2 (Option.some.inj hb2).symm
/-- a cell without a type is written -/
theorem zJ_raw {a0 : Nat} (hJ : z_J OB D DA TY T H) (ht0 : T a0 = none) (oq : ∀ b : Nat, b ≠ a0 → H1[b]? = H[b]?) : z_J OB D DA TY T H1 := by
  have hs : ∀ a t ci fl, T a = some t → TY[t]? = some (.inl (ci, fl)) → ∀ k ∈ zj_slots ci, ∀ w, z_sl H a (D.2 ci k) w → z_sl H1 a (D.2 ci k) w := by
    intro a t ci fl ha hty k hk w hw
    obtain ⟨cell, x1, x2, x3⟩ := hw
    exact ⟨cell, by rw [oq a (fun e => by rw [e, ht0] at ha; cases ha)]; exact x1, x2, x3⟩
  refine ⟨fun a t ci fl ha hty => ?_, zj_q_kept hJ hs, fun q hq hT => ?_⟩
  · exact zj_kept (hJ.1 a t ci fl ha hty) (fun _ h => h) (hs a t ci fl ha hty) (fun k hk b hw hs => oq b (fun e => by rw [e, ht0] at hs; cases hs))
  · obtain ⟨hn, cell, x1, x2⟩ := hJ.2.2 q hq hT
    exact ⟨hn, cell, by rw [oq _ (fun e => by rw [e, ht0] at hn; cases hn)]; exact x1, x2⟩
/-- a cell gets a type; the heap may grow -/
theorem zJ_grow {a0 tau : Nat} (hJ : z_J OB D DA TY T H) (ht0 : T a0 = none) (hlt : ∀ a t, T a = some t → a < H.size) (oq : ∀ b : Nat, b < H.size → b ≠ a0 → H1[b]? = H[b]?) (hn : ∀ ci fl, TY[tau]? = some (.inl (ci, fl)) → ci ≠ 12 ∧ ci ≠ 4) (hun : zc_un tau = true) : z_J OB D DA TY (z_T1 T a0 tau) H1 := by
  have hs : ∀ a t ci fl, T a = some t → TY[t]? = some (.inl (ci, fl)) → ∀ k ∈ zj_slots ci, ∀ w, z_sl H a (D.2 ci k) w → z_sl H1 a (D.2 ci k) w := by
    intro a t ci fl ha hty k hk w hw
    obtain ⟨cell, x1, x2, x3⟩ := hw
    exact ⟨cell, by rw [oq a (hlt a t ha) (fun e => by rw [e, ht0] at ha; cases ha)]; exact x1, x2, x3⟩
  have nil : ∀ {ci k : Nat} {fl : List zV}, TY[tau]? = some (.inl (ci, fl)) → k ∈ zj_refs ci → False := by
    intro ci k fl hty hk
    obtain ⟨e, e4⟩ := hn ci fl hty
    have n1 : Nat.beq ci 12 = false := by
      cases hb : Nat.beq ci 12 with
      | false => rfl
      | true => exact absurd (Nat.eq_of_beq_eq_true hb) e
    have n2 : Nat.beq ci 4 = false := by
      cases hb : Nat.beq ci 4 with
      | false => rfl
      | true => exact absurd (Nat.eq_of_beq_eq_true hb) e4
    unfold zj_refs at hk
    rw [n1, n2] at hk
    exact absurd hk List.not_mem_nil
  refine ⟨fun a t ci fl ha hty => ?_, fun a a' t t' ci fl fl' h1 h2 h3 h4 k hk b h5 h6 => ?_, fun q hq hT => ?_⟩
  rotate_right
  · by_cases e : OB q.2.2.2.2.1 = a0
    · rw [e, z_T1_at] at hT
      exact absurd (Option.some.inj hT).symm (zc_un_ok hun q hq)
    · rw [z_T1_ne e] at hT
      obtain ⟨hn0, cell, x1, x2⟩ := hJ.2.2 q hq hT
      have e2 : OB q.2.1 ≠ a0 := fun e2 => by rw [e2, ht0] at hn0; cases hn0
      exact ⟨by rw [z_T1_ne e2]; exact hn0, cell, by rw [oq _ (hlt _ _ hn0) e2]; exact x1, x2⟩
  · by_cases e : a = a0
    · subst e
      rw [z_T1_at] at ha
      cases ha
      obtain ⟨e1, e2⟩ := hn ci fl hty
      exact ⟨fun e => absurd e e1, fun e => absurd e e2⟩
    · rw [z_T1_ne e] at ha
      have lt : ∀ b, (T b).isSome = true → b < H.size ∧ b ≠ a0 := by
        intro b hb
        cases hT : T b with
        | none => rw [hT] at hb; cases hb
        | some u => exact ⟨hlt b u hT, fun e2 => by rw [e2, ht0] at hT; cases hT⟩
      refine zj_kept (hJ.1 a t ci fl ha hty) (fun b hb => ?_) (hs a t ci fl ha hty) (fun k hk b hw hs => oq b (lt b hs).1 (lt b hs).2)
      rw [z_T1_ne (lt b hb).2]; exact hb
  · by_cases e : a = a0
    · rw [e, z_T1_at] at h1
      cases h1
      exact absurd (nil h2 hk) (fun h => h)
    · by_cases e' : a' = a0
      · rw [e', z_T1_at] at h3
        cases h3
        exact absurd (nil h4 hk) (fun h => h)
      · rw [z_T1_ne e] at h1
        rw [z_T1_ne e'] at h3
        exact zj_q_kept hJ hs a a' t t' ci fl fl' h1 h2 h3 h4 k hk b h5 h6
/-- other types, of the same classes -/
theorem zJ_map {f : Nat → Nat} (hJ : z_J OB D DA TY T H) (hf : ∀ a t, T a = some t → ∀ ci fl, TY[f t]? = some (.inl (ci, fl)) → ∃ fl0, TY[t]? = some (.inl (ci, fl0))) (hlt : ∀ a t, T a = some t → t < TY.length) (hmp : zc_mpk TY.length f = true) : z_J OB D DA TY (fun b => (T b).map f) H := by
  have back : ∀ a t, (T a).map f = some t → ∃ u, T a = some u ∧ t = f u := by
    intro a t h
    cases hT : T a with
    | none => simp [hT] at h
    | some u => exact ⟨u, rfl, by simp [hT] at h; exact h.symm⟩
  refine ⟨fun a t ci fl ha hty => ?_, fun a a' t t' ci fl fl' h1 h2 h3 h4 k hk b h5 h6 => ?_, fun q hq hT => ?_⟩
  rotate_right
  · obtain ⟨u, u1, u2⟩ := back _ _ hT
    obtain ⟨t0, m1, m2⟩ := zc_mpk_ok hmp hq (hlt _ _ u1) u2.symm
    obtain ⟨n1, n2⟩ := hJ.2.2 _ m1 u1
    exact ⟨by show Option.map f (T (OB q.2.1)) = some q.1; rw [show T (OB q.2.1) = some t0 from n1, ← m2]; rfl, n2⟩
  · obtain ⟨u, hT, rfl⟩ := back a t ha
    obtain ⟨fl0, h0⟩ := hf a u hT ci fl hty
    refine zj_kept (hJ.1 a u ci fl0 hT h0) (fun b hb => ?_) (fun k hk w hw => hw) (fun k hk b hw hs => rfl)
    cases hTb : T b with
    | none => rw [hTb] at hb; cases hb
    | some v => simp [hTb]
  · obtain ⟨u, u1, rfl⟩ := back a t h1
    obtain ⟨u', u1', rfl⟩ := back a' t' h3
    obtain ⟨f0, f1⟩ := hf a u u1 _ _ h2
    obtain ⟨f0', f1'⟩ := hf a' u' u1' _ _ h4
    exact hJ.2.1 a a' u u' ci f0 f0' u1 f1 u1' f1' k hk b h5 h6
/-- the heap grows -/
theorem zJ_ext (hJ : z_J OB D DA TY T H) (hlt : ∀ a t, T a = some t → a < H.size) (oq : ∀ b : Nat, b < H.size → H1[b]? = H[b]?) : z_J OB D DA TY T H1 := by
  have hs : ∀ a t ci fl, T a = some t → TY[t]? = some (.inl (ci, fl)) → ∀ k ∈ zj_slots ci, ∀ w, z_sl H a (D.2 ci k) w → z_sl H1 a (D.2 ci k) w := by
    intro a t ci fl ha hty k hk w hw
    obtain ⟨cell, x1, x2, x3⟩ := hw
    exact ⟨cell, by rw [oq a (hlt a t ha)]; exact x1, x2, x3⟩
  refine ⟨fun a t ci fl ha hty => ?_, zj_q_kept hJ hs, fun q hq hT => ?_⟩
  rotate_right
  · obtain ⟨hn, cell, x1, x2⟩ := hJ.2.2 q hq hT
    exact ⟨hn, cell, by rw [oq _ (hlt _ _ hn)]; exact x1, x2⟩
  refine zj_kept (hJ.1 a t ci fl ha hty) (fun _ h => h) (hs a t ci fl ha hty) (fun k hk b hw hs => ?_)
  cases hT : T b with
  | none => rw [hT] at hs; cases hs
  | some u => exact oq b (hlt b u hT)
end ZFROZEN
