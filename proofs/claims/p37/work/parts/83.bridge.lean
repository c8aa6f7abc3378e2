/-! From named cells to typed ones, and back. -/
/-- how a name is come by: an argument, or a field of an earlier name -/
abbrev zbC : Type := Nat ⊕ (Nat × Nat × Nat)
def zb_path (TY : List zTy) (NT : List Nat) (c : Nat) (q : zbC) : Bool := match q with
  | .inl _ => true
  | .inr u => Nat.blt u.1 c && (match NT[u.1]?, NT[c]? with
    | some t, some t2 => (match TY[t]? with
      | some (.inl o) => Nat.beq o.1 u.2.1 && (match o.2[u.2.2]? with
        | some c => (match z_tof c with
          | some w => Nat.beq w t2
          | none => false)
        | none => false)
      | _ => false)
    | _, _ => false)
def zb_paths (TY : List zTy) (NT : List Nat) : Nat → List zbC → Bool
  | _, [] => true
  | c, q :: L => zb_path TY NT c q && zb_paths TY NT (c + 1) L
def zb_nd : List Nat → Bool
  | [] => true
  | t :: L => !(L.any (fun u => Nat.beq u t)) && zb_nd L
theorem zb_nd_ok : ∀ {L : List Nat} {i j t : Nat}, zb_nd L = true → L[i]? = some t → L[j]? = some t → i = j
  | [], i, j, t, _, h, _ => by simp at h
  | x :: L, i, j, t, h, h1, h2 => by
    unfold zb_nd at h
    rw [Bool.and_eq_true] at h
    have hx : ∀ (k : Nat), L[k]? = some x → False := by
      intro k hk
      have h3 : L.any (fun u => Nat.beq u x) = false := by simpa using h.1
      have h4 := List.any_eq_false.mp h3 x (List.mem_of_getElem? hk)
      exact h4 (Nat.beq_refl _)
    cases i with
    | zero =>
      cases j with
      | zero => rfl
      | succ j =>
        have e : x = t := by simpa using h1
        subst e
        exact absurd (by simpa using h2) (hx j)
    | succ i =>
      cases j with
      | zero =>
        have e : x = t := by simpa using h2
        subst e
        exact absurd (by simpa using h1) (hx i)
      | succ j => rw [zb_nd_ok (i := i) (j := j) h.2 (by simpa using h1) (by simpa using h2)]
def zb_seq : Nat → List Nat → Bool
  | _, [] => true
  | i, x :: L => Nat.beq x i && zb_seq (i + 1) L
theorem zb_seq_ok : ∀ {L : List Nat} {i k x : Nat}, zb_seq i L = true → L[k]? = some x → x = i + k
  | [], _, _, _, _, h => by simp at h
  | y :: L, i, k, x, h, h1 => by
    unfold zb_seq at h
    rw [Bool.and_eq_true] at h
    cases k with
    | zero =>
      have e : y = x := by simpa using h1
      rw [← e]; exact z_beq h.1
    | succ k =>
      have := zb_seq_ok (k := k) (x := x) h.2 (by simpa using h1)
      omega
/-- the range of an int field -/
def zb_fr (TY : List zTy) (NT : List Nat) (q : Nat × Nat × Nat × Nat) : Option zR := match NT[q.1]? with
  | some t => (match TY[t]? with
    | some (.inl o) => (match o.2[q.2.2.1]? with
      | some (.inl r) => cond (Nat.beq o.1 q.2.1) (some r) none
      | _ => none)
    | _ => none)
  | none => none
def zb_it (c : zV) : Bool := match c with
  | .inl _ => true
  | _ => false
/-- what stands in an array -/
def zb_ar (TY : List zTy) (NT : List Nat) (q : Nat × Nat × Nat × Nat) : Option (List ((Nat × Nat) × zV)) := match NT[q.1]? with
  | some t => (match TY[t]? with
    | some (.inr o) => cond ((Nat.beq o.1 q.2.1 && (Nat.beq o.2.1.1 q.2.2.1 && Nat.beq o.2.1.2 q.2.2.1)) && (o.2.2.all (fun g => zb_it g.2) && o.2.2.any (fun g => Nat.beq g.1.1 0 && Nat.ble q.2.2.1 (g.1.2 + 1)))) (some o.2.2) none
    | _ => none)
  | none => none
def zb_wf (TY : List zTy) (cl : List vw_C) (y : zNL) (NT : List Nat) (RC : List zbC) : Bool :=
  (Nat.beq NT.length (n_N y) && Nat.beq RC.length (n_N y) && (Nat.ble (n_N y) 900 && zb_paths TY NT 0 RC)) &&
  (zb_nd NT && (n_O y).all (fun q => match NT[q.1]? with
    | some t => (match TY[t]? with
      | some (.inl o) => Nat.beq o.1 q.2 && Nat.blt q.1 (n_N y)
      | _ => false)
    | none => false)) &&
  ((List.range (n_N y)).all (fun c => match NT[c]? with
    | some t => (match TY[t]? with
      | some (.inl o) => (n_O y).any (fun q => Nat.beq q.1 c && Nat.beq q.2 o.1)
      | some (.inr _) => (n_A y).any (fun q => Nat.beq q.1 c)
      | none => false)
    | none => false)) &&
  (zb_seq 0 ((n_I y).map (fun q => q.2.2.2)) && zb_seq 0 ((n_A y).map (fun q => q.2.2.2))) &&
  ((n_I y).all (fun q => (zb_fr TY NT q).isSome && (match cl[q.2.1]? with
    | some r => !(r.2.1 q.2.2.1).2.2.2
    | none => false)) && (n_A y).all (fun q => (zb_ar TY NT q).isSome)) &&
  (n_R y).all (fun q => match RC[q.2.2.2]? with
    | some (.inr u) => Nat.beq u.1 q.1 && (Nat.beq u.2.1 q.2.1 && Nat.beq u.2.2 q.2.2.1)
    | _ => false)
def zb_A (as : List Nat) (OB : Nat → Nat) (c : Nat) : Nat := match as[c]? with
  | some a => a
  | none => OB (c - 900)
def zb_int (H : Heap) (a k : Nat) : Int := match H[a]? with
  | some q => (match q.slots[k]? with
    | some (.int x) => x.toInt
    | _ => 0)
  | none => 0
theorem zb_int_ok {H : Heap} {a k : Nat} {x : Int32} (h : z_sl H a k (.int x)) : zb_int H a k = x.toInt := by
  obtain ⟨cell, h1, h2, h3⟩ := h
  unfold zb_int
  rw [h1]
  show (match cell.slots[k]? with
    | some (.int x) => x.toInt
    | _ => 0) = _
  rw [h3]
def zb_F (D : va_G) (H : Heap) (A : Nat → Nat) (y : zNL) : List Int := (n_I y).map (fun q => zb_int H (A q.1) (D.2 q.2.1 q.2.2.1))
def zb_G (H : Heap) (A : Nat → Nat) (y : zNL) : List (Int → Int) := (n_A y).map (fun q => fun i => zb_int H (A q.1) i.toNat)
def zb_rF (TY : List zTy) (NT : List Nat) (y : zNL) (F : List Int) : Prop := ∀ q ∈ n_I y, ∀ r, zb_fr TY NT q = some r → ∃ x, zn_l F q.2.2.2 = some x ∧ r.1 ≤ x ∧ x ≤ r.2
def zb_rG (TY : List zTy) (NT : List Nat) (y : zNL) (G : List (Int → Int)) : Prop := ∀ q ∈ n_A y, ∀ o, zb_ar TY NT q = some o → ∃ g, zn_l G q.2.2.2 = some g ∧ ∀ s ∈ o, ∀ j : Nat, j < q.2.2.1 → s.1.1 ≤ j → j ≤ s.1.2 → ∀ r, s.2 = .inl r → r.1 ≤ g j ∧ g j ≤ r.2
section ZBRIDGE
variable {OB : Nat → Nat} {D : va_G} {DA : Nat → ClassId} {cl : List vw_C} {TY : List zTy} {T : zTp} {H H1 : Heap} {y : zNL} {NT : List Nat} {RC : List zbC} {A : Nat → Nat}
theorem zb_fld {a t ci k : Nat} {fl : List zV} {c : zV} (hb : ∀ a t, T a = some t → ∃ ty, TY[t]? = some ty ∧ z_cell OB D DA cl T H a ty) (ha : T a = some t) (hty : TY[t]? = some (.inl (ci, fl))) (hc : fl[k]? = some c) : ∃ r v, cl[ci]? = some r ∧ k < r.2.2 ∧ z_sl H a (D.2 ci k) v ∧ z_v OB T c v := by
  obtain ⟨ty, h1, h2⟩ := hb a t ha
  rw [hty] at h1
  cases h1
  obtain ⟨r, q1, q2, V, ⟨cell, q3, q4, q5, q6⟩, q7⟩ := h2
  have hlt : k < r.2.2 := by rw [← q2]; exact (List.getElem?_eq_some_iff.mp hc).1
  exact ⟨r, V k, q1, hlt, ⟨cell, q3, q5, q6 k hlt⟩, q7 k c hc⟩
theorem zb_as {S : Nat → Nat} (hb : ∀ a t, T a = some t → ∃ ty, TY[t]? = some ty ∧ z_cell OB D DA cl T H a ty) : ∀ (L : List zbC) (acc : List Nat), zb_paths TY NT acc.length L = true → (∀ (c a : Nat), acc[c]? = some a → ∃ t, NT[c]? = some t ∧ T a = some t) → (∀ (c i : Nat), L[c]? = some (.inl i) → ∃ t, NT[acc.length + c]? = some t ∧ T (S i) = some t) →
    ∃ as : List Nat, as.length = acc.length + L.length ∧ (∀ (c a : Nat), acc[c]? = some a → as[c]? = some a) ∧ (∀ (c a : Nat), as[c]? = some a → ∃ t, NT[c]? = some t ∧ T a = some t) ∧ (∀ (c i : Nat), L[c]? = some (.inl i) → as[acc.length + c]? = some (S i)) ∧ (∀ (c : Nat) (u : Nat × Nat × Nat), L[c]? = some (.inr u) → ∃ (a b : Nat) (r : vw_C), as[u.1]? = some a ∧ as[acc.length + c]? = some b ∧ cl[u.2.1]? = some r ∧ u.2.2 < r.2.2 ∧ z_sl H a (D.2 u.2.1 u.2.2) (.ref b))
  | [], acc, _, h2, _ => ⟨acc, by simp, fun _ _ h => h, h2, fun c i h => by simp at h, fun c u h => by simp at h⟩
  | q :: L, acc, h1, h2, h3 => by
    unfold zb_paths at h1
    rw [Bool.and_eq_true] at h1
    have new : ∃ (b t : Nat), NT[acc.length]? = some t ∧ T b = some t ∧ (∀ i, q = .inl i → b = S i) ∧ (∀ u : Nat × Nat × Nat, q = .inr u → ∃ (a : Nat) (r : vw_C), acc[u.1]? = some a ∧ cl[u.2.1]? = some r ∧ u.2.2 < r.2.2 ∧ z_sl H a (D.2 u.2.1 u.2.2) (.ref b)) := by
      match q, h1.1, h3 with
      | .inl i, _, h3 =>
        obtain ⟨t, t1, t2⟩ := h3 0 i rfl
        exact ⟨S i, t, t1, t2, fun j e => (by cases e; rfl), fun u e => (by cases e)⟩
      | .inr u, h4, _ =>
        simp only [zb_path, Bool.and_eq_true] at h4
        obtain ⟨h5, h6⟩ := h4
        have lt := z_blt h5
        have ha := List.getElem?_eq_getElem lt
        obtain ⟨t, t1, t2⟩ := h2 _ _ ha
        split at h6
        · rename_i t' t2' e1 e2
          rw [t1] at e1
          cases e1
          split at h6
          · rename_i o ho
            rw [Bool.and_eq_true] at h6
            obtain ⟨h7, h8⟩ := h6
            split at h8
            · rename_i c hw
              split at h8
              · rename_i w hz
                obtain ⟨oc, fl⟩ := o
                have e3 : oc = u.2.1 := z_beq h7
                subst e3
                have e4 : w = t2' := z_beq h8
                subst e4
                obtain ⟨r, v, k1, k2, k3, k5⟩ := zb_fld hb t2 ho hw
                obtain ⟨b, rfl, k4⟩ := z_tof_ok hz k5
                exact ⟨b, w, e2, k4, fun i e => (by cases e), fun u2 e => (by cases e; exact ⟨_, r, ha, k1, k2, k3⟩)⟩
              · cases h8
            · cases h8
          · cases h6
        · cases h6
    obtain ⟨b, t, n1, n2, n3, n4⟩ := new
    have h2' : ∀ (c a : Nat), (acc ++ [b])[c]? = some a → ∃ t, NT[c]? = some t ∧ T a = some t := by
      intro c a hc
      rcases Nat.lt_trichotomy c acc.length with lt | rfl | gt
      · rw [List.getElem?_append_left lt] at hc; exact h2 c a hc
      · rw [List.getElem?_append_right (Nat.le_refl _), Nat.sub_self] at hc
        have e : b = a := by simpa using hc
        subst e
        exact ⟨t, n1, n2⟩
      · rw [List.getElem?_append_right (by omega)] at hc
        have e : c - acc.length = (c - acc.length - 1) + 1 := by omega
        rw [e] at hc
        simp at hc
    have h3' : ∀ (c i : Nat), L[c]? = some (.inl i) → ∃ t, NT[(acc ++ [b]).length + c]? = some t ∧ T (S i) = some t := by
      intro c i hc
      have := h3 (c + 1) i (by simpa using hc)
      rw [List.length_append, List.length_singleton, Nat.add_assoc, Nat.add_comm 1 c]
      exact this
    have ap : ∀ {c a : Nat}, acc[c]? = some a → (acc ++ [b])[c]? = some a := by
      intro c a hc
      rw [List.getElem?_append_left (List.getElem?_eq_some_iff.mp hc).1]; exact hc
    have hl : (acc ++ [b]).length = acc.length + 1 := by simp
    obtain ⟨as, g1, g2, g3, g4, g5⟩ := zb_as hb L (acc ++ [b]) (by rw [hl]; exact h1.2) h2' h3'
    have hb0 : as[acc.length]? = some b := g2 _ _ (by rw [List.getElem?_append_right (Nat.le_refl _), Nat.sub_self]; rfl)
    refine ⟨as, by rw [g1, hl]; simp; omega, fun c a hc => g2 c a (ap hc), g3, fun c i hc => ?_, fun c u hc => ?_⟩
    · cases c with
      | zero =>
        have e : q = .inl i := by simpa using hc
        rw [← n3 i e]; exact hb0
      | succ c =>
        have := g4 c i (by simpa using hc)
        rw [hl] at this
        rw [show acc.length + (c + 1) = acc.length + 1 + c by omega]; exact this
    · cases c with
      | zero =>
        have e : q = .inr u := by simpa using hc
        obtain ⟨a, r, m1, m2, m3, m4⟩ := n4 u e
        exact ⟨a, b, r, g2 _ _ (ap m1), hb0, m2, m3, m4⟩
      | succ c =>
        have := g5 c u (by simpa using hc)
        rw [hl] at this
        rw [show acc.length + (c + 1) = acc.length + 1 + c by omega]; exact this
theorem zb_A_at {as : List Nat} {c a : Nat} (h : as[c]? = some a) : zb_A as OB c = a := by unfold zb_A; rw [h]
/-- an array's cell by its type -/
theorem zb_arc {q : Nat × Nat × Nat × Nat} {o : List ((Nat × Nat) × zV)} (hb : ∀ a t, T a = some t → ∃ ty, TY[t]? = some ty ∧ z_cell OB D DA cl T H a ty) (hA : ∃ t, NT[q.1]? = some t ∧ T (A q.1) = some t) (h : zb_ar TY NT q = some o) :
    ∃ f : Nat → Value, H[A q.1]? = some (arrV (DA q.2.1) q.2.2.1 f) ∧ q.2.2.1 < 2147483648 ∧ (∀ s ∈ o, ∀ j : Nat, j < q.2.2.1 → s.1.1 ≤ j → j ≤ s.1.2 → ∃ r x, s.2 = .inl r ∧ f j = .int x ∧ r.1 ≤ x.toInt ∧ x.toInt ≤ r.2) ∧ ∃ s ∈ o, s.1.1 = 0 ∧ q.2.2.1 ≤ s.1.2 + 1 := by
  obtain ⟨t, a1, a2⟩ := hA
  unfold zb_ar at h
  rw [a1] at h
  simp only at h
  split at h
  · rename_i u hu
    obtain ⟨hc, rfl⟩ := z_cond h
    simp only [Bool.and_eq_true] at hc
    obtain ⟨⟨c1, c2, c3⟩, c4, c5⟩ := hc
    obtain ⟨ty, y1, y2⟩ := hb _ _ a2
    rw [hu] at y1
    cases y1
    obtain ⟨n, f, z1, z2, z3, z4, z5⟩ := y2
    have e2 := z_beq c2
    have e3 := z_beq c3
    have en : n = q.2.2.1 := by omega
    subst en
    rw [z_beq c1] at z1
    obtain ⟨s, s1, s2⟩ := List.any_eq_true.mp c5
    rw [Bool.and_eq_true] at s2
    refine ⟨f, z1, z4, fun g hg j j1 j2 j3 => ?_, s, s1, z_beq s2.1, Nat.le_of_ble_eq_true s2.2⟩
    have hv := z5 g hg j j1 j2 j3
    have hi : zb_it g.2 = true := List.all_eq_true.mp c4 g hg
    match hg2 : g.2, hi, hv with
    | .inl r, _, hv =>
      obtain ⟨x, ex, x1, x2⟩ := hv
      exact ⟨r, x, rfl, ex, x1, x2⟩
    | .inr _, hi, _ => cases hi
  · cases h
theorem zb_wf1 (h : zb_wf TY cl y NT RC = true) : NT.length = n_N y ∧ RC.length = n_N y ∧ n_N y ≤ 900 ∧ zb_paths TY NT 0 RC = true ∧ zb_nd NT = true := by
  unfold zb_wf at h
  simp only [Bool.and_eq_true] at h
  obtain ⟨⟨⟨⟨⟨⟨⟨h1, h2⟩, h3, h4⟩, h5, -⟩, -⟩, -⟩, -⟩, -⟩ := h
  exact ⟨z_beq h1, z_beq h2, Nat.le_of_ble_eq_true h3, h4, h5⟩
theorem zb_wfO (h : zb_wf TY cl y NT RC = true) : ∀ q ∈ n_O y, q.1 < n_N y ∧ ∃ t fl, NT[q.1]? = some t ∧ TY[t]? = some (.inl (q.2, fl)) := by
  unfold zb_wf at h
  simp only [Bool.and_eq_true] at h
  obtain ⟨⟨⟨⟨⟨-, -, h5⟩, -⟩, -⟩, -⟩, -⟩ := h
  intro q hq
  have h6 := List.all_eq_true.mp h5 q hq
  split at h6
  · rename_i t ht
    split at h6
    · rename_i o ho
      rw [Bool.and_eq_true] at h6
      obtain ⟨oc, fl⟩ := o
      have e : oc = q.2 := z_beq h6.1
      subst e
      exact ⟨z_blt h6.2, t, fl, ht, ho⟩
    · cases h6
  · cases h6
theorem zb_wfN (h : zb_wf TY cl y NT RC = true) {c t : Nat} (hc : c < n_N y) (ht : NT[c]? = some t) : (∀ ci fl, TY[t]? = some (.inl (ci, fl)) → (c, ci) ∈ n_O y) ∧ (∀ o, TY[t]? = some (.inr o) → ∃ q ∈ n_A y, q.1 = c) := by
  unfold zb_wf at h
  simp only [Bool.and_eq_true] at h
  obtain ⟨⟨⟨⟨-, h5⟩, -⟩, -⟩, -⟩ := h
  have h6 := List.all_eq_true.mp h5 c (List.mem_range.mpr hc)
  rw [ht] at h6
  simp only at h6
  refine ⟨fun ci fl e => ?_, fun o e => ?_⟩
  · rw [e] at h6
    obtain ⟨q, q1, q2⟩ := List.any_eq_true.mp h6
    rw [Bool.and_eq_true] at q2
    obtain ⟨qa, qb⟩ := q
    have e1 : qa = c := z_beq q2.1
    have e2 : qb = ci := z_beq q2.2
    subst e1; subst e2
    exact q1
  · rw [e] at h6
    obtain ⟨q, q1, q2⟩ := List.any_eq_true.mp h6
    exact ⟨q, q1, z_beq q2⟩
theorem zb_wfS (h : zb_wf TY cl y NT RC = true) : zb_seq 0 ((n_I y).map (fun q => q.2.2.2)) = true ∧ zb_seq 0 ((n_A y).map (fun q => q.2.2.2)) = true := by
  unfold zb_wf at h
  simp only [Bool.and_eq_true] at h
  obtain ⟨⟨⟨-, h5⟩, -⟩, -⟩ := h
  exact h5
theorem zb_wfI (h : zb_wf TY cl y NT RC = true) : (∀ q ∈ n_I y, ∃ t fl r, NT[q.1]? = some t ∧ TY[t]? = some (.inl (q.2.1, fl)) ∧ fl[q.2.2.1]? = some (.inl r) ∧ zb_fr TY NT q = some r ∧ ∀ r, cl[q.2.1]? = some r → (r.2.1 q.2.2.1).2.2.2 = false) ∧ ∀ q ∈ n_A y, ∃ o, zb_ar TY NT q = some o := by
  unfold zb_wf at h
  simp only [Bool.and_eq_true] at h
  obtain ⟨⟨-, h5, h6⟩, -⟩ := h
  refine ⟨fun q hq => ?_, fun q hq => ?_⟩
  · have h7 := List.all_eq_true.mp h5 q hq
    rw [Bool.and_eq_true] at h7
    obtain ⟨h8, h9⟩ := h7
    obtain ⟨r, hr⟩ := Option.isSome_iff_exists.mp h8
    have hr0 := hr
    unfold zb_fr at hr
    split at hr
    · rename_i t ht
      split at hr
      · rename_i o ho
        split at hr
        · rename_i r2 hr2
          obtain ⟨c1, rfl⟩ := z_cond hr
          obtain ⟨oc, fl⟩ := o
          have e : oc = q.2.1 := z_beq c1
          subst e
          refine ⟨t, fl, r2, ht, ho, hr2, hr0, fun rr hrr => ?_⟩
          rw [hrr] at h9
          simpa using h9
        · cases hr
      · cases hr
    · cases hr
  · exact Option.isSome_iff_exists.mp (List.all_eq_true.mp h6 q hq)
theorem zb_wfR (h : zb_wf TY cl y NT RC = true) : ∀ q ∈ n_R y, RC[q.2.2.2]? = some (.inr (q.1, q.2.1, q.2.2.1)) := by
  unfold zb_wf at h
  simp only [Bool.and_eq_true] at h
  obtain ⟨-, h5⟩ := h
  intro q hq
  have h6 := List.all_eq_true.mp h5 q hq
  split at h6
  · rename_i u hu
    simp only [Bool.and_eq_true] at h6
    obtain ⟨u1, u2, u3⟩ := u
    have e1 : u1 = q.1 := z_beq h6.1
    have e2 : u2 = q.2.1 := z_beq h6.2.1
    have e3 : u3 = q.2.2.1 := z_beq h6.2.2
    rw [hu, e1, e2, e3]
  · cases h6
/-- the place of an entry -/
theorem zb_place {α : Type} {f : (Nat × Nat × Nat × Nat) → α} {L : List (Nat × Nat × Nat × Nat)} (hs : zb_seq 0 (L.map (fun q => q.2.2.2)) = true) {q : Nat × Nat × Nat × Nat} (hq : q ∈ L) : zn_l (L.map f) q.2.2.2 = some (f q) := by
  obtain ⟨i, hi⟩ := List.getElem?_of_mem hq
  have h1 := zb_seq_ok (k := i) (x := q.2.2.2) hs (by rw [List.getElem?_map, hi]; rfl)
  rw [h1, Nat.zero_add, zn_l_get, List.getElem?_map, hi]
  rfl
/-- names for what is typed -/
theorem zb_open {S : Nat → Nat} (hw : zb_wf TY cl y NT RC = true) (hb : ∀ a t, T a = some t → ∃ ty, TY[t]? = some ty ∧ z_cell OB D DA cl T H a ty) (hS : ∀ (c i : Nat), RC[c]? = some (.inl i) → ∃ t, NT[c]? = some t ∧ T (S i) = some t) :
    ∃ A : Nat → Nat, (∀ k, A (900 + k) = OB k) ∧ (∀ c, c < n_N y → ∃ t, NT[c]? = some t ∧ T (A c) = some t) ∧ (∀ (c i : Nat), RC[c]? = some (.inl i) → A c = S i) ∧
      zn_rep D DA cl y A (zb_F D H A y) (zb_G H A y) H ∧ zb_rF TY NT y (zb_F D H A y) ∧ zb_rG TY NT y (zb_G H A y) := by
  obtain ⟨w1, w2, w3, w4, w5⟩ := zb_wf1 hw
  obtain ⟨as, g1, -, g3, g4, g5⟩ := zb_as (S := S) hb RC [] w4 (fun c a h => by simp at h) (fun c i h => by simpa using hS c i h)
  have hl : as.length = n_N y := by rw [g1, w2]; simp
  have hat : ∀ c, c < n_N y → as[c]? = some (zb_A as OB c) := by
    intro c hc
    have h1 := List.getElem?_eq_getElem (l := as) (i := c) (by rw [hl]; exact hc)
    rw [h1, zb_A_at h1]
  have hA : ∀ c, c < n_N y → ∃ t, NT[c]? = some t ∧ T (zb_A as OB c) = some t := fun c hc => g3 c _ (hat c hc)
  have hfr : ∀ q ∈ n_I y, ∀ t fl r, NT[q.1]? = some t → TY[t]? = some (.inl (q.2.1, fl)) → fl[q.2.2.1]? = some (.inl r) → ∃ rr x, cl[q.2.1]? = some rr ∧ q.2.2.1 < rr.2.2 ∧ z_sl H (zb_A as OB q.1) (D.2 q.2.1 q.2.2.1) (.int x) ∧ r.1 ≤ x.toInt ∧ x.toInt ≤ r.2 := by
    intro q hq t fl r h1 h2 h3
    have hlt : q.1 < n_N y := by rw [← w1]; exact (List.getElem?_eq_some_iff.mp h1).1
    obtain ⟨t2, e1, e2⟩ := hA _ hlt
    rw [h1] at e1
    cases e1
    obtain ⟨rr, v, k1, k2, k3, x, rfl, k4, k5⟩ := zb_fld hb e2 h2 h3
    exact ⟨rr, x, k1, k2, k3, k4, k5⟩
  refine ⟨zb_A as OB, fun k => ?_, hA, fun c i hc => zb_A_at (by simpa using g4 c i hc), ⟨fun q hq => ?_, fun q hq => ?_, fun q hq => ?_, fun q hq => ?_⟩, fun q hq r hr => ?_, fun q hq o ho => ?_⟩
  · have : as[900 + k]? = none := List.getElem?_eq_none (by omega)
    unfold zb_A
    rw [this]
    show OB (900 + k - 900) = OB k
    rw [Nat.add_sub_cancel_left]
  · obtain ⟨hlt, t, fl, h1, h2⟩ := zb_wfO hw q hq
    obtain ⟨t2, e1, e2⟩ := hA _ hlt
    rw [h1] at e1
    cases e1
    obtain ⟨ty, z1, z2⟩ := hb _ _ e2
    rw [h2] at z1
    cases z1
    obtain ⟨r, q1, q2, V, q3, q4⟩ := z2
    exact ⟨r, V, q1, q3⟩
  · obtain ⟨t, fl, r, h1, h2, h3, h4, h5⟩ := (zb_wfI hw).1 q hq
    obtain ⟨rr, x, k1, k2, k3, k4, k5⟩ := hfr q hq t fl r h1 h2 h3
    refine ⟨rr, x, k1, k2, k3, ?_⟩
    unfold zb_F
    rw [zb_place (zb_wfS hw).1 hq, zb_int_ok k3]
  · have h1 := zb_wfR hw q hq
    obtain ⟨a, b, r, k1, k2, k3, k4, k5⟩ := g5 _ _ h1
    have e1 : zb_A as OB q.1 = a := zb_A_at k1
    have e2 : zb_A as OB q.2.2.2 = b := zb_A_at (by simpa using k2)
    exact ⟨r, k3, k4, by rw [e1, e2]; exact k5⟩
  · obtain ⟨o, ho⟩ := (zb_wfI hw).2 q hq
    have hlt : q.1 < n_N y := by
      unfold zb_ar at ho
      split at ho
      · rename_i t ht
        rw [← w1]; exact (List.getElem?_eq_some_iff.mp ht).1
      · cases ho
    obtain ⟨f, f1, f2, f3, s, s1, s2, s3⟩ := zb_arc hb (hA _ hlt) ho
    refine ⟨f, _, f1, by unfold zb_G; exact zb_place (zb_wfS hw).2 hq, fun j hj => ?_⟩
    obtain ⟨r, x, -, x1, -⟩ := f3 s s1 j hj (by omega) (by omega)
    refine ⟨x, x1, ?_⟩
    have : z_sl H (zb_A as OB q.1) j (.int x) := ⟨_, f1, rfl, by rw [arrV_read _ _ hj, x1]⟩
    show x.toInt = zb_int H (zb_A as OB q.1) (j : Int).toNat
    rw [Int.toNat_natCast, zb_int_ok this]
  · obtain ⟨t, fl, r2, h1, h2, h3, h4, h5⟩ := (zb_wfI hw).1 q hq
    rw [hr] at h4
    cases h4
    obtain ⟨rr, x, k1, k2, k3, k4, k5⟩ := hfr q hq t fl r h1 h2 h3
    refine ⟨x.toInt, ?_, k4, k5⟩
    unfold zb_F
    rw [zb_place (zb_wfS hw).1 hq, zb_int_ok k3]
  · have hlt : q.1 < n_N y := by
      unfold zb_ar at ho
      split at ho
      · rename_i t ht
        rw [← w1]; exact (List.getElem?_eq_some_iff.mp ht).1
      · cases ho
    obtain ⟨f, f1, f2, f3, -⟩ := zb_arc hb (hA _ hlt) ho
    refine ⟨_, by unfold zb_G; exact zb_place (zb_wfS hw).2 hq, fun s hs j j1 j2 j3 r hr => ?_⟩
    obtain ⟨r2, x, x0, x1, x2, x3⟩ := f3 s hs j j1 j2 j3
    rw [hr] at x0
    cases x0
    have : z_sl H (zb_A as OB q.1) j (.int x) := ⟨_, f1, rfl, by rw [arrV_read _ _ j1, x1]⟩
    show r.1 ≤ zb_int H (zb_A as OB q.1) (j : Int).toNat ∧ zb_int H (zb_A as OB q.1) (j : Int).toNat ≤ r.2
    rw [Int.toNat_natCast, zb_int_ok this]
    exact ⟨x2, x3⟩
theorem zb_inj (hw : zb_wf TY cl y NT RC = true) (hA : ∀ c, c < n_N y → ∃ t, NT[c]? = some t ∧ T (A c) = some t) : ∀ a b, a < n_N y → b < n_N y → A a = A b → a = b := by
  intro a b ha hb e
  obtain ⟨t, t1, t2⟩ := hA a ha
  obtain ⟨u, u1, u2⟩ := hA b hb
  rw [e, u2] at t2
  cases t2
  exact zb_nd_ok (zb_wf1 hw).2.2.2.2 t1 u1
theorem zb_cell_kept {a : Nat} {ty : zTy} (h : z_cell OB D DA cl T H a ty) (e : H1[a]? = H[a]?) : z_cell OB D DA cl T H1 a ty := by
  match ty, h with
  | .inl o, ⟨r, q1, q2, V, q3, q4⟩ => exact ⟨r, q1, q2, V, q3.kept e, q4⟩
  | .inr o, ⟨n, f, z1, z2⟩ => exact ⟨n, f, by rw [e]; exact z1, z2⟩
/-- what is typed, from names -/
theorem zb_close {F' : List Int} {G' : List (Int → Int)} (hw : zb_wf TY cl y NT RC = true) (hb : ∀ a t, T a = some t → ∃ ty, TY[t]? = some ty ∧ z_cell OB D DA cl T H a ty) (hA : ∀ c, c < n_N y → ∃ t, NT[c]? = some t ∧ T (A c) = some t)
    (hr : zn_rep D DA cl y A F' G' H1) (hf : zn_frm D cl y A H H1) (hF : zb_rF TY NT y F') (hG : zb_rG TY NT y G') : (∀ a t, T a = some t → ∃ ty, TY[t]? = some ty ∧ z_cell OB D DA cl T H1 a ty) ∧ z_fin D cl TY T H T H1 := by
  have hnm : ∀ a t, T a = some t → (∃ c, c < n_N y ∧ A c = a ∧ NT[c]? = some t) ∨ H1[a]? = H[a]? := by
    intro a t ht
    by_cases hn : ∃ c, c < n_N y ∧ A c = a
    · obtain ⟨c, hc, rfl⟩ := hn
      obtain ⟨u, u1, u2⟩ := hA c hc
      rw [ht] at u2
      cases u2
      exact Or.inl ⟨c, hc, rfl, u1⟩
    · exact Or.inr (hf.2.1 a (fun c hc e => hn ⟨c, hc, e⟩))
  refine ⟨fun a t ht => ?_, fun a t ci fl ht hty => ⟨t, fl, ht, hty, fun r k w x1 x2 x3 x4 => ?_⟩⟩
  · obtain ⟨ty, h1, h2⟩ := hb a t ht
    refine ⟨ty, h1, ?_⟩
    rcases hnm a t ht with ⟨c, hc, rfl, hnt⟩ | he
    · match ty, h1, h2 with
      | .inl (ci, fl), h1, h2 =>
        have hm := (zb_wfN hw hc hnt).1 ci fl h1
        obtain ⟨r, V', r1, r2⟩ := hr.1 _ hm
        obtain ⟨r0, q1, q2, V, q3, q4⟩ := h2
        have r1 : cl[ci]? = some r := r1
        have q1 : cl[ci]? = some r0 := q1
        rw [r1] at q1
        cases q1
        refine ⟨r, r1, q2, V', r2, fun k cK hk => ?_⟩
        have hk : fl[k]? = some cK := hk
        have hlt : k < r.2.2 := by rw [← q2]; exact (List.getElem?_eq_some_iff.mp hk).1
        have rd : ∀ w, z_sl H1 (A c) (D.2 ci k) w → V' k = w := by
          intro w hw2
          obtain ⟨cell, c1, c2, c3, c4⟩ := r2
          exact z_sl_fun ⟨cell, c1, c3, c4 k hlt⟩ hw2
        by_cases hi : ∃ i ∈ n_I y, i.1 = c ∧ i.2.2.1 = k
        · obtain ⟨⟨i1, i2, i3, i4⟩, him, e1, e2⟩ := hi
          have e1 : i1 = c := e1
          have e2 : i3 = k := e2
          subst e1; subst e2
          obtain ⟨t2, fl2, rr, k1, k2, k3, k4, -⟩ := (zb_wfI hw).1 _ him
          have k1 : NT[i1]? = some t2 := k1
          rw [hnt] at k1
          cases k1
          rw [h1] at k2
          cases k2
          have k3 : fl[i3]? = some (.inl rr) := k3
          rw [hk] at k3
          cases k3
          obtain ⟨x, x1, x2, x3⟩ := hF _ him rr k4
          obtain ⟨r3, x', y1, y2, y3, y4⟩ := hr.2.1 _ him
          rw [x1] at y4
          have y4 : x = x'.toInt := Option.some.inj y4
          exact ⟨x', rd _ y3, by show rr.1 ≤ x'.toInt; omega, by show x'.toInt ≤ rr.2; omega⟩
        · have hsl : z_sl H (A c) (D.2 ci k) (V k) := by
            obtain ⟨cell, c1, c2, c3, c4⟩ := q3
            exact ⟨cell, c1, c3, c4 k hlt⟩
          rw [rd _ (hf.2.2 _ hm r k (V k) r1 hlt (fun i him e1 e2 => hi ⟨i, him, e1, e2⟩) hsl)]
          exact q4 k cK hk
      | .inr o, h1, h2 =>
        obtain ⟨q, hq, rfl⟩ := (zb_wfN hw hc hnt).2 o h1
        obtain ⟨oo, hoo⟩ := (zb_wfI hw).2 q hq
        obtain ⟨f, g, f1, f2, f3⟩ := hr.2.2.2 q hq
        obtain ⟨g2, g3, g4⟩ := hG q hq oo hoo
        rw [f2] at g3
        cases g3
        unfold zb_ar at hoo
        rw [hnt] at hoo
        simp only at hoo
        rw [h1] at hoo
        obtain ⟨hc2, rfl⟩ := z_cond hoo
        simp only [Bool.and_eq_true] at hc2
        obtain ⟨⟨c1, c2, c3⟩, c4, c5⟩ := hc2
        obtain ⟨n, f0, z1, z2, z3, z4, z5⟩ := h2
        have e2 := z_beq c2
        have e3 := z_beq c3
        refine ⟨q.2.2.1, f, by rw [z_beq c1]; exact f1, by omega, by omega, by omega, fun s hs j j1 j2 j3 => ?_⟩
        have hi : zb_it s.2 = true := List.all_eq_true.mp c4 s hs
        obtain ⟨x, x1, x2⟩ := f3 j j1
        match hs2 : s.2, hi with
        | .inl r, _ =>
          have := g4 s hs j j1 j2 j3 r hs2
          exact ⟨x, x1, by show r.1 ≤ x.toInt; omega, by show x.toInt ≤ r.2; omega⟩
        | .inr _, hi => cases hi
    · exact zb_cell_kept h2 he
  · rcases hnm a t ht with ⟨c, hc, rfl, hnt⟩ | he
    · refine hf.2.2 _ ((zb_wfN hw hc hnt).1 ci fl hty) r k w x1 x2 (fun i him e1 e2 => ?_) x4
      obtain ⟨t2, fl2, rr, k1, k2, k3, k4, k5⟩ := (zb_wfI hw).1 i him
      have e1 : i.1 = c := e1
      rw [e1, hnt] at k1
      cases k1
      rw [hty] at k2
      have k2 := Option.some.inj k2
      have k2 : ci = i.2.1 := by cases k2; rfl
      have := k5 r (by rw [← k2]; exact x1)
      rw [e2, x3] at this
      cases this
    · obtain ⟨cell, c1, c2⟩ := x4
      exact ⟨cell, by rw [he]; exact c1, c2⟩
end ZBRIDGE
