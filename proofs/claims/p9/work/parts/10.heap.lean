/-! Reading and writing cells. -/
def z_isx (st : zS) (d : Nat) : Bool := (z_X st).any (fun q => Nat.beq q.1 d)
/-- two values are references to different cells -/
def z_apt (st : zS) (i j : Nat) : Bool := match z_get (z_V st) i, z_get (z_V st) j with
  | some (.inr (.inl t)), some (.inr (.inl u)) => !(Nat.beq t u)
  | some (.inr (.inl _)), none => z_isx st j
  | none, some (.inr (.inl _)) => z_isx st i
  | none, none => z_isx st i && z_isx st j && !(Nat.beq i j)
  | _, _ => false
/-- two indexes are apart -/
def z_dis (st : zS) (i j : Nat) : Bool := match z_get (z_V st) i, z_get (z_V st) j with
  | some (.inl a), some (.inl b) => z_ile (a.2 + 1) b.1 || z_ile (b.2 + 1) a.1
  | _, _ => false
/-- two indexes are one -/
def z_sme (st : zS) (i j : Nat) : Bool := Nat.beq i j || (match z_get (z_V st) i, z_get (z_V st) j with
  | some (.inl a), some (.inl b) => z_ile a.2 a.1 && z_ile b.2 b.1 && z_ile a.1 b.1 && z_ile b.1 a.1
  | _, _ => false)
def z_ffind (st : zS) (d ci k : Nat) : Option Nat := ((z_F st).find? (fun q => Nat.beq q.1 d && Nat.beq q.2.1 ci && Nat.beq q.2.2.1 k)).map (fun q => q.2.2.2)
def z_efind (st : zS) (d j : Nat) : Option Nat := ((z_E st).find? (fun q => Nat.beq q.1 d && z_sme st q.2.1 j)).map (fun q => q.2.2)
section ZHEAP
variable {OB : Nat → Nat} {D : va_G} {DA : Nat → ClassId} {cl : List vw_C} {TY : List zTy} {PHI : List (List Nat)} {sz : Nat} {raw : Option Nat} {pu : Bool} {T0 : zTp} {H0 : Heap} {env0 : List Value} {nL : Nat} {st st' : zS} {T : zTp} {H : Heap} {locs : List Loc} {env : List Value} {ls : Array Slot} {stk : List Value}
theorem z_isx_ok {d : Nat} (h : z_isx st d = true) (hs : z_sat OB D DA cl TY PHI sz raw pu T0 H0 env0 nL st T H locs env ls stk) : ∃ a : Nat, env[d]? = some (.ref a) ∧ T a = none ∧ (sz ≤ a ∧ (H0.size ≤ a ∨ raw = some a)) ∧ ∃ q ∈ z_X st, q.1 = d ∧ ∃ r V, cl[q.2]? = some r ∧ t_OB a (D.1 q.2) r.2.2 (D.2 q.2) H V := by
  obtain ⟨q, hq, hq2⟩ := List.any_eq_true.mp h
  obtain ⟨a, h1, h2, h3, h4⟩ := z_fx_in hs.2.2.2.2.2.2.2.2.1 q hq
  have e := z_beq hq2
  rw [e] at h1
  exact ⟨a, h1, h2, h3, q, hq, e, h4⟩
theorem z_fx_apart {n0 : Nat} {X : List (Nat × Nat)} (h : z_fx D cl T sz n0 raw H env X) {p q : Nat × Nat} (hp : p ∈ X) (hq : q ∈ X) (hne : p.1 ≠ q.1) {a : Nat} (h1 : env[p.1]? = some (.ref a)) : env[q.1]? ≠ some (.ref a) := by
  induction X with
  | nil => exact absurd hp List.not_mem_nil
  | cons x X ih =>
    obtain ⟨⟨b, e1, _, _, _, e5⟩, hr⟩ := h
    rcases List.mem_cons.mp hp with ep | hp2
    · rcases List.mem_cons.mp hq with eq | hq2
      · exact absurd (by rw [ep, eq]) hne
      · intro e
        rw [ep] at h1
        have hb : b = a := by rw [e1] at h1; cases h1; rfl
        subst hb
        exact e5 q hq2 e
    · rcases List.mem_cons.mp hq with eq | hq2
      · intro e
        rw [eq] at e
        have hb : b = a := by rw [e1] at e; cases e; rfl
        subst hb
        exact e5 p hp2 h1
      · exact ih hr hp2 hq2
theorem z_apt_ok {i j : Nat} (h : z_apt st i j = true) (hs : z_sat OB D DA cl TY PHI sz raw pu T0 H0 env0 nL st T H locs env ls stk) {a b : Nat} (h1 : env[i]? = some (.ref a)) (h2 : env[j]? = some (.ref b)) : a ≠ b := by
  unfold z_apt at h
  split at h
  · rename_i t u ht hu
    obtain ⟨v, e1, a1, rfl, g1⟩ := z_get_ok hs.2.2.2.2.1 ht
    obtain ⟨w, e2, b1, rfl, g2⟩ := z_get_ok hs.2.2.2.2.1 hu
    rw [h1] at e1; cases e1
    rw [h2] at e2; cases e2
    intro q
    subst q
    rw [g1] at g2
    cases g2
    simp at h
  · rename_i t ht hu
    obtain ⟨v, e1, a1, rfl, g1⟩ := z_get_ok hs.2.2.2.2.1 ht
    obtain ⟨b1, e2, g2, _⟩ := z_isx_ok h hs
    rw [h1] at e1; cases e1
    rw [h2] at e2; cases e2
    intro q
    subst q
    rw [g1] at g2
    cases g2
  · rename_i t ht hu
    obtain ⟨v, e1, a1, rfl, g1⟩ := z_get_ok hs.2.2.2.2.1 hu
    obtain ⟨b1, e2, g2, _⟩ := z_isx_ok h hs
    rw [h2] at e1; cases e1
    rw [h1] at e2; cases e2
    intro q
    subst q
    rw [g1] at g2
    cases g2
  · simp only [Bool.and_eq_true, Bool.not_eq_true'] at h
    obtain ⟨a1, e1, _, _, p, hp, rfl, _⟩ := z_isx_ok h.1.1 hs
    obtain ⟨b1, e2, _, _, q, hq, rfl, _⟩ := z_isx_ok h.1.2 hs
    have hne : p.1 ≠ q.1 := by
      intro e
      rw [e] at h
      simp at h
    intro e
    subst e
    exact z_fx_apart hs.2.2.2.2.2.2.2.2.1 hp hq hne h1 h2
  · cases h
theorem z_sl_kept {H1 : Heap} {a k : Nat} {w : Value} (h : z_sl H a k w) (e : H1[a]? = H[a]?) : z_sl H1 a k w := by
  obtain ⟨cell, h1, h2, h3⟩ := h
  exact ⟨cell, by rw [e]; exact h1, h2, h3⟩
theorem z_cell_kept {H1 : Heap} {a : Nat} {ty : zTy} (h : z_cell OB D DA cl T H a ty) (e : H1[a]? = H[a]?) : z_cell OB D DA cl T H1 a ty := by
  cases ty with
  | inl o =>
    obtain ⟨r, h1, h2, V, h3, h4⟩ := h
    exact ⟨r, h1, h2, V, h3.kept e, h4⟩
  | inr q =>
    obtain ⟨n, f, h1, h2⟩ := h
    exact ⟨n, f, by rw [e]; exact h1, h2⟩
theorem z_dis_ok {i j : Nat} (h : z_dis st i j = true) (hs : z_sat OB D DA cl TY PHI sz raw pu T0 H0 env0 nL st T H locs env ls stk) {x y : Int32} (h1 : env[i]? = some (.int x)) (h2 : env[j]? = some (.int y)) : x.toInt ≠ y.toInt := by
  unfold z_dis at h
  split at h
  · rename_i a b ha hb
    obtain ⟨v, e1, x1, rfl, g1⟩ := z_get_ok hs.2.2.2.2.1 ha
    obtain ⟨w, e2, y1, rfl, g2⟩ := z_get_ok hs.2.2.2.2.1 hb
    rw [h1] at e1; cases e1
    rw [h2] at e2; cases e2
    rw [Bool.or_eq_true] at h
    obtain ⟨p1, p2⟩ := g1
    obtain ⟨p3, p4⟩ := g2
    rcases h with h | h <;> have := z_ile_ok h <;> omega
  · cases h
theorem z_sme_ok {i j : Nat} (h : z_sme st i j = true) (hs : z_sat OB D DA cl TY PHI sz raw pu T0 H0 env0 nL st T H locs env ls stk) {x y : Int32} (h1 : env[i]? = some (.int x)) (h2 : env[j]? = some (.int y)) : x = y := by
  unfold z_sme at h
  rw [Bool.or_eq_true] at h
  rcases h with h | h
  · rw [z_beq h, h2] at h1; cases h1; rfl
  · split at h
    · rename_i a b ha hb
      obtain ⟨v, e1, x1, rfl, g1⟩ := z_get_ok hs.2.2.2.2.1 ha
      obtain ⟨w, e2, y1, rfl, g2⟩ := z_get_ok hs.2.2.2.2.1 hb
      rw [h1] at e1; cases e1
      rw [h2] at e2; cases e2
      simp only [Bool.and_eq_true] at h
      have := z_ile_ok h.1.1.1; have := z_ile_ok h.1.1.2; have := z_ile_ok h.1.2; have := z_ile_ok h.2
      obtain ⟨p1, p2⟩ := g1
      obtain ⟨p3, p4⟩ := g2
      exact Int32.toInt_inj.mp (by omega)
    · cases h
theorem z_ffind_ok {d ci k w : Nat} (h : z_ffind st d ci k = some w) (hs : z_sat OB D DA cl TY PHI sz raw pu T0 H0 env0 nL st T H locs env ls stk) : ∃ (a : Nat) (v : Value), env[d]? = some (.ref a) ∧ env[w]? = some v ∧ z_sl H a (D.2 ci k) v := by
  unfold z_ffind at h
  cases hf : (z_F st).find? (fun q => Nat.beq q.1 d && Nat.beq q.2.1 ci && Nat.beq q.2.2.1 k) with
  | none => rw [hf] at h; cases h
  | some q =>
    rw [hf] at h
    cases h
    have hm := List.mem_of_find?_eq_some hf
    have hp := List.find?_some hf
    simp only [Bool.and_eq_true] at hp
    obtain ⟨a, v, r, e1, e2, e3, e4, e5⟩ := hs.2.2.2.2.2.1 q hm
    rw [z_beq hp.1.1] at e1
    rw [z_beq hp.1.2, z_beq hp.2] at e5
    exact ⟨a, v, e1, e2, e5⟩
theorem z_efind_ok {d j w : Nat} (h : z_efind st d j = some w) (hs : z_sat OB D DA cl TY PHI sz raw pu T0 H0 env0 nL st T H locs env ls stk) {y : Int32} (hj : env[j]? = some (.int y)) : ∃ (a : Nat) (v : Value), env[d]? = some (.ref a) ∧ env[w]? = some v ∧ 0 ≤ y.toInt ∧ z_sl H a y.toInt.toNat v := by
  unfold z_efind at h
  cases hf : (z_E st).find? (fun q => Nat.beq q.1 d && z_sme st q.2.1 j) with
  | none => rw [hf] at h; cases h
  | some q =>
    rw [hf] at h
    cases h
    have hm := List.mem_of_find?_eq_some hf
    have hp := List.find?_some hf
    simp only [Bool.and_eq_true] at hp
    obtain ⟨a, x, v, e1, e2, e3, e4, e5⟩ := hs.2.2.2.2.2.2.1 q hm
    rw [z_beq hp.1] at e1
    have := z_sme_ok hp.2 hs e2 hj
    subst this
    exact ⟨a, v, e1, e4, e3, e5⟩
/-- a typed object -/
theorem z_obj {d t ci : Nat} {fl : List zV} (hs : z_sat OB D DA cl TY PHI sz raw pu T0 H0 env0 nL st T H locs env ls stk) (h1 : z_get (z_V st) d = some (.inr (.inl t))) (h2 : TY[t]? = some (.inl (ci, fl))) : ∃ (a : Nat) (r : vw_C) (V : Nat → Value), env[d]? = some (.ref a) ∧ T a = some t ∧ cl[ci]? = some r ∧ fl.length = r.2.2 ∧ t_OB a (D.1 ci) r.2.2 (D.2 ci) H V ∧ ∀ k c, fl[k]? = some c → z_v OB T c (V k) := by
  obtain ⟨v, e1, a, rfl, g1⟩ := z_get_ok hs.2.2.2.2.1 h1
  obtain ⟨ty, g2, g3⟩ := hs.2.2.2.2.2.2.2.2.2.1.1 a t g1
  rw [h2] at g2
  cases g2
  obtain ⟨r, q1, q2, V, q3, q4⟩ := g3
  exact ⟨a, r, V, e1, g1, q1, q2, q3, q4⟩
theorem z_arr {d t ek lo hi : Nat} {sg : List ((Nat × Nat) × zV)} (hs : z_sat OB D DA cl TY PHI sz raw pu T0 H0 env0 nL st T H locs env ls stk) (h1 : z_get (z_V st) d = some (.inr (.inl t))) (h2 : TY[t]? = some (.inr (ek, (lo, hi), sg))) : ∃ (a n : Nat) (f : Nat → Value), env[d]? = some (.ref a) ∧ T a = some t ∧ H[a]? = some (arrV (DA ek) n f) ∧ lo ≤ n ∧ n ≤ hi ∧ n < 2147483648 ∧ ∀ g ∈ sg, ∀ j, j < n → g.1.1 ≤ j → j ≤ g.1.2 → z_v OB T g.2 (f j) := by
  obtain ⟨v, e1, a, rfl, g1⟩ := z_get_ok hs.2.2.2.2.1 h1
  obtain ⟨ty, g2, g3⟩ := hs.2.2.2.2.2.2.2.2.2.1.1 a t g1
  rw [h2] at g2
  cases g2
  obtain ⟨n, f, q1, q2, q3, q4, q5⟩ := g3
  exact ⟨a, n, f, e1, g1, q1, q2, q3, q4, q5⟩
end ZHEAP
