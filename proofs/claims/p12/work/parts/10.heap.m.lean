/-! 10.heap, 11.fields, 12.fields2, 13.arrays, 14.makes, 15.makes2, 16.contracts, 17.ends, 18.entry, 19.returns -/
section
/-! Reading and writing cells. -/
def z_isx (st : zS) (d : Nat) : Bool := (z_X st).any (fun q => Nat.beq q.1 d)
/-- two values are references to different cells -/
def z_apt (st : zS) (i j : Nat) : Bool := match z_get (z_V st) i, z_get (z_V st) j with
  | some (.inr (.inl t)), some (.inr (.inl u)) => !(Nat.beq t u)
  | some (.inr (.inl _)), none => z_isx st j
  | none, some (.inr (.inl _)) => z_isx st i
  | none, none => z_isx st i && z_isx st j && !(Nat.beq i j)
  | _, _ => false
/-- two indexes are apart -/
def z_dis (st : zS) (i j : Nat) : Bool := match z_get (z_V st) i, z_get (z_V st) j with
  | some (.inl a), some (.inl b) => z_ile (a.2 + 1) b.1 || z_ile (b.2 + 1) a.1
  | _, _ => false
/-- two indexes are one -/
def z_sme (st : zS) (i j : Nat) : Bool := Nat.beq i j || (match z_get (z_V st) i, z_get (z_V st) j with
  | some (.inl a), some (.inl b) => z_ile a.2 a.1 && z_ile b.2 b.1 && z_ile a.1 b.1 && z_ile b.1 a.1
  | _, _ => false)
def z_ffind (st : zS) (d ci k : Nat) : Option Nat := ((z_F st).find? (fun q => Nat.beq q.1 d && Nat.beq q.2.1 ci && Nat.beq q.2.2.1 k)).map (fun q => q.2.2.2)
def z_efind (st : zS) (d j : Nat) : Option Nat := ((z_E st).find? (fun q => Nat.beq q.1 d && z_sme st q.2.1 j)).map (fun q => q.2.2)
section ZHEAP
variable {OB : Nat → Nat} {D : va_G} {DA : Nat → ClassId} {cl : List vw_C} {TY : List zTy} {PHI : List (List Nat)} {sz : Nat} {raw : Option Nat} {pu : Bool} {T0 : zTp} {H0 : Heap} {env0 : List Value} {nL : Nat} {st st' : zS} {T : zTp} {H : Heap} {locs : List Loc} {env : List Value} {ls : Array Slot} {stk : List Value}
theorem z_isx_ok {d : Nat} (h : z_isx st d = true) (hs : z_sat OB D DA cl TY PHI sz raw pu T0 H0 env0 nL st T H locs env ls stk) : ∃ a : Nat, env[d]? = some (.ref a) ∧ T a = none ∧ (sz ≤ a ∧ (H0.size ≤ a ∨ raw = some a)) ∧ ∃ q ∈ z_X st, q.1 = d ∧ ∃ r V, cl[q.2]? = some r ∧ t_OB a (D.1 q.2) r.2.2 (D.2 q.2) H V := by
  obtain ⟨q, hq, hq2⟩ := List.any_eq_true.mp h
  obtain ⟨a, h1, h2, h3, h4⟩ := z_fx_in hs.2.2.2.2.2.2.2.2.1 q hq
  have e := z_beq hq2
  rw [e] at h1
  exact ⟨a, h1, h2, h3, q, hq, e, h4⟩
theorem z_fx_apart {n0 : Nat} {X : List (Nat × Nat)} (h : z_fx D cl T sz n0 raw H env X) {p q : Nat × Nat} (hp : p ∈ X) (hq : q ∈ X) (hne : p.1 ≠ q.1) {a : Nat} (h1 : env[p.1]? = some (.ref a)) : env[q.1]? ≠ some (.ref a) := by
  induction X with
  | nil => exact absurd hp List.not_mem_nil
  | cons x X ih =>
    obtain ⟨⟨b, e1, _, _, _, e5⟩, hr⟩ := h
    rcases List.mem_cons.mp hp with ep | hp2
    · rcases List.mem_cons.mp hq with eq | hq2
      · exact absurd (by rw [ep, eq]) hne
      · intro e
        rw [ep] at h1
        have hb : b = a := by rw [e1] at h1; cases h1; rfl
        subst hb
        exact e5 q hq2 e
    · rcases List.mem_cons.mp hq with eq | hq2
      · intro e
        rw [eq] at e
        have hb : b = a := by rw [e1] at e; cases e; rfl
        subst hb
        exact e5 p hp2 h1
      · exact ih hr hp2 hq2
theorem z_apt_ok {i j : Nat} (h : z_apt st i j = true) (hs : z_sat OB D DA cl TY PHI sz raw pu T0 H0 env0 nL st T H locs env ls stk) {a b : Nat} (h1 : env[i]? = some (.ref a)) (h2 : env[j]? = some (.ref b)) : a ≠ b := by
  unfold z_apt at h
  split at h
  · rename_i t u ht hu
    obtain ⟨v, e1, a1, rfl, g1⟩ := z_get_ok hs.2.2.2.2.1 ht
    obtain ⟨w, e2, b1, rfl, g2⟩ := z_get_ok hs.2.2.2.2.1 hu
    rw [h1] at e1; cases e1
    rw [h2] at e2; cases e2
    intro q
    subst q
    rw [g1] at g2
    cases g2
    simp at h
  · rename_i t ht hu
    obtain ⟨v, e1, a1, rfl, g1⟩ := z_get_ok hs.2.2.2.2.1 ht
    obtain ⟨b1, e2, g2, _⟩ := z_isx_ok h hs
    rw [h1] at e1; cases e1
    rw [h2] at e2; cases e2
    intro q
    subst q
    rw [g1] at g2
    cases g2
  · rename_i t ht hu
    obtain ⟨v, e1, a1, rfl, g1⟩ := z_get_ok hs.2.2.2.2.1 hu
    obtain ⟨b1, e2, g2, _⟩ := z_isx_ok h hs
    rw [h2] at e1; cases e1
    rw [h1] at e2; cases e2
    intro q
    subst q
    rw [g1] at g2
    cases g2
  · simp only [Bool.and_eq_true, Bool.not_eq_true'] at h
    obtain ⟨a1, e1, _, _, p, hp, rfl, _⟩ := z_isx_ok h.1.1 hs
    obtain ⟨b1, e2, _, _, q, hq, rfl, _⟩ := z_isx_ok h.1.2 hs
    have hne : p.1 ≠ q.1 := by
      intro e
      rw [e] at h
      simp at h
    intro e
    subst e
    exact z_fx_apart hs.2.2.2.2.2.2.2.2.1 hp hq hne h1 h2
  · cases h
theorem z_sl_kept {H1 : Heap} {a k : Nat} {w : Value} (h : z_sl H a k w) (e : H1[a]? = H[a]?) : z_sl H1 a k w := by
  obtain ⟨cell, h1, h2, h3⟩ := h
  exact ⟨cell, by rw [e]; exact h1, h2, h3⟩
theorem z_cell_kept {H1 : Heap} {a : Nat} {ty : zTy} (h : z_cell OB D DA cl T H a ty) (e : H1[a]? = H[a]?) : z_cell OB D DA cl T H1 a ty := by
  cases ty with
  | inl o =>
    obtain ⟨r, h1, h2, V, h3, h4⟩ := h
    exact ⟨r, h1, h2, V, h3.kept e, h4⟩
  | inr q =>
    obtain ⟨n, f, h1, h2⟩ := h
    exact ⟨n, f, by rw [e]; exact h1, h2⟩
theorem z_dis_ok {i j : Nat} (h : z_dis st i j = true) (hs : z_sat OB D DA cl TY PHI sz raw pu T0 H0 env0 nL st T H locs env ls stk) {x y : Int32} (h1 : env[i]? = some (.int x)) (h2 : env[j]? = some (.int y)) : x.toInt ≠ y.toInt := by
  unfold z_dis at h
  split at h
  · rename_i a b ha hb
    obtain ⟨v, e1, x1, rfl, g1⟩ := z_get_ok hs.2.2.2.2.1 ha
    obtain ⟨w, e2, y1, rfl, g2⟩ := z_get_ok hs.2.2.2.2.1 hb
    rw [h1] at e1; cases e1
    rw [h2] at e2; cases e2
    rw [Bool.or_eq_true] at h
    obtain ⟨p1, p2⟩ := g1
    obtain ⟨p3, p4⟩ := g2
    rcases h with h | h <;> have := z_ile_ok h <;> omega
  · cases h
theorem z_sme_ok {i j : Nat} (h : z_sme st i j = true) (hs : z_sat OB D DA cl TY PHI sz raw pu T0 H0 env0 nL st T H locs env ls stk) {x y : Int32} (h1 : env[i]? = some (.int x)) (h2 : env[j]? = some (.int y)) : x = y := by
  unfold z_sme at h
  rw [Bool.or_eq_true] at h
  rcases h with h | h
  · rw [z_beq h, h2] at h1; cases h1; rfl
  · split at h
    · rename_i a b ha hb
      obtain ⟨v, e1, x1, rfl, g1⟩ := z_get_ok hs.2.2.2.2.1 ha
      obtain ⟨w, e2, y1, rfl, g2⟩ := z_get_ok hs.2.2.2.2.1 hb
      rw [h1] at e1; cases e1
      rw [h2] at e2; cases e2
      simp only [Bool.and_eq_true] at h
      have := z_ile_ok h.1.1.1; have := z_ile_ok h.1.1.2; have := z_ile_ok h.1.2; have := z_ile_ok h.2
      obtain ⟨p1, p2⟩ := g1
      obtain ⟨p3, p4⟩ := g2
      exact Int32.toInt_inj.mp (by omega)
    · cases h
theorem z_ffind_ok {d ci k w : Nat} (h : z_ffind st d ci k = some w) (hs : z_sat OB D DA cl TY PHI sz raw pu T0 H0 env0 nL st T H locs env ls stk) : ∃ (a : Nat) (v : Value), env[d]? = some (.ref a) ∧ env[w]? = some v ∧ z_sl H a (D.2 ci k) v := by
  unfold z_ffind at h
  cases hf : (z_F st).find? (fun q => Nat.beq q.1 d && Nat.beq q.2.1 ci && Nat.beq q.2.2.1 k) with
  | none => rw [hf] at h; cases h
  | some q =>
    rw [hf] at h
    cases h
    have hm := List.mem_of_find?_eq_some hf
    have hp := List.find?_some hf
    simp only [Bool.and_eq_true] at hp
    obtain ⟨a, v, r, e1, e2, e3, e4, e5⟩ := hs.2.2.2.2.2.1 q hm
    rw [z_beq hp.1.1] at e1
    rw [z_beq hp.1.2, z_beq hp.2] at e5
    exact ⟨a, v, e1, e2, e5⟩
theorem z_efind_ok {d j w : Nat} (h : z_efind st d j = some w) (hs : z_sat OB D DA cl TY PHI sz raw pu T0 H0 env0 nL st T H locs env ls stk) {y : Int32} (hj : env[j]? = some (.int y)) : ∃ (a : Nat) (v : Value), env[d]? = some (.ref a) ∧ env[w]? = some v ∧ 0 ≤ y.toInt ∧ z_sl H a y.toInt.toNat v := by
  unfold z_efind at h
  cases hf : (z_E st).find? (fun q => Nat.beq q.1 d && z_sme st q.2.1 j) with
  | none => rw [hf] at h; cases h
  | some q =>
    rw [hf] at h
    cases h
    have hm := List.mem_of_find?_eq_some hf
    have hp := List.find?_some hf
    simp only [Bool.and_eq_true] at hp
    obtain ⟨a, x, v, e1, e2, e3, e4, e5⟩ := hs.2.2.2.2.2.2.1 q hm
    rw [z_beq hp.1] at e1
    have := z_sme_ok hp.2 hs e2 hj
    subst this
    exact ⟨a, v, e1, e4, e3, e5⟩
/-- a typed object -/
theorem z_obj {d t ci : Nat} {fl : List zV} (hs : z_sat OB D DA cl TY PHI sz raw pu T0 H0 env0 nL st T H locs env ls stk) (h1 : z_get (z_V st) d = some (.inr (.inl t))) (h2 : TY[t]? = some (.inl (ci, fl))) : ∃ (a : Nat) (r : vw_C) (V : Nat → Value), env[d]? = some (.ref a) ∧ T a = some t ∧ cl[ci]? = some r ∧ fl.length = r.2.2 ∧ t_OB a (D.1 ci) r.2.2 (D.2 ci) H V ∧ ∀ k c, fl[k]? = some c → z_v OB T c (V k) := by
  obtain ⟨v, e1, a, rfl, g1⟩ := z_get_ok hs.2.2.2.2.1 h1
  obtain ⟨ty, g2, g3⟩ := hs.2.2.2.2.2.2.2.2.2.1.1 a t g1
  rw [h2] at g2
  cases g2
  obtain ⟨r, q1, q2, V, q3, q4⟩ := g3
  exact ⟨a, r, V, e1, g1, q1, q2, q3, q4⟩
theorem z_arr {d t ek lo hi : Nat} {sg : List ((Nat × Nat) × zV)} (hs : z_sat OB D DA cl TY PHI sz raw pu T0 H0 env0 nL st T H locs env ls stk) (h1 : z_get (z_V st) d = some (.inr (.inl t))) (h2 : TY[t]? = some (.inr (ek, (lo, hi), sg))) : ∃ (a n : Nat) (f : Nat → Value), env[d]? = some (.ref a) ∧ T a = some t ∧ H[a]? = some (arrV (DA ek) n f) ∧ lo ≤ n ∧ n ≤ hi ∧ n < 2147483648 ∧ ∀ g ∈ sg, ∀ j, j < n → g.1.1 ≤ j → j ≤ g.1.2 → z_v OB T g.2 (f j) := by
  obtain ⟨v, e1, a, rfl, g1⟩ := z_get_ok hs.2.2.2.2.1 h1
  obtain ⟨ty, g2, g3⟩ := hs.2.2.2.2.2.2.2.2.2.1.1 a t g1
  rw [h2] at g2
  cases g2
  obtain ⟨n, f, q1, q2, q3, q4, q5⟩ := g3
  exact ⟨a, n, f, e1, g1, q1, q2, q3, q4, q5⟩
end ZHEAP
end
section
/-! Fields. -/
def z_ek : Nat → FieldType
  | 0 => .int
  | 1 => .byte
  | _ => .long
/-- what the tables say of the classes and of a class's own places -/
def z_St (Ts : List Cond) (cl : List vw_C) (FT : Nat → Nat → FieldType) (own : String) (FL : List (Nat × Nat × Nat)) : Prop :=
  (∀ ci r, cl[ci]? = some r → (∀ w ∈ u_ws r.1 r.2.1 r.2.2, w ∈ Ts) ∧ (∀ k, k < r.2.2 → parseFieldDescriptor (r.2.1 k).2.2.1 = some (FT ci k)) ∧ (∀ a, a < r.2.2 → ∀ b, b < r.2.2 → a ≠ b → (r.2.1 a).2.1 ≠ (r.2.1 b).2.1) ∧ (∀ k, k < r.2.2 → (r.2.1 k).1 = r.1)) ∧
  (∀ q ∈ FL, ∃ r, cl[q.2.1]? = some r ∧ q.2.2 < r.2.2 ∧ Cond.fieldLink own q.1 (r.2.1 q.2.2).1 (r.2.1 q.2.2).2.1 (r.2.1 q.2.2).2.2.1 ∈ Ts)
def z_Dy (s : State) (m : MethodId) (args : Array Value) (Ts : List Cond) (own : String) (D : va_G) (cl : List vw_C) (DA : Nat → ClassId) (tys : List (ClassId × FieldType)) : Prop :=
  (∀ w ∈ Ts, w.before args s = true) ∧ s.vm.findClass own = some m.cls ∧ va_K D cl tys s ∧ ∀ k, k < 3 → tys[k]? = some (DA k, z_ek k)
def z_fit (ty : FieldType) (c : zV) : Bool := match ty, c with
  | .int, .inl _ => true
  | .boolean, .inl r => z_ile 0 r.1 && z_ile r.2 1
  | .object _, .inr (.inl _) => true
  | .array _, .inr (.inl _) => true
  | _, _ => false
theorem z_fit_ok {OB : Nat → Nat} {T : zTp} {ty : FieldType} {c : zV} {v : Value} (h : z_fit ty c = true) (hv : z_v OB T c v) : narrow ty v = v ∧ fits ty v = true := by
  cases ty <;> rcases c with r | t | k <;> simp only [z_fit, Bool.false_eq_true, Bool.and_eq_true] at h
  · obtain ⟨x, rfl, h1, h2⟩ := hv
    exact ⟨rfl, rfl⟩
  · obtain ⟨x, rfl, h1, h2⟩ := hv
    have l1 := z_ile_ok h.1
    have l2 := z_ile_ok h.2
    have hx : x.toInt = 0 ∨ x.toInt = 1 := by omega
    rcases hx with hx | hx
    · have : x = 0 := z_int0 hx
      subst this
      exact ⟨rfl, rfl⟩
    · have : x = 1 := Int32.toInt_inj.mp (by rw [hx]; rfl)
      subst this
      exact ⟨rfl, rfl⟩
  · obtain ⟨a, rfl, h1⟩ := hv
    exact ⟨rfl, rfl⟩
  · obtain ⟨a, rfl, h1⟩ := hv
    exact ⟨rfl, rfl⟩
/-- a cell whose slot is set is still of its class -/
theorem z_ob_set {a : Nat} {cC : ClassId} {N : Nat} {iS : Nat → Nat} {H H1 : Heap} {V : Nat → Value} {cell : Cell} {j : Nat} {v : Value} (h : t_OB a cC N iS H V) (hc : H[a]? = some cell) (h1 : H1[a]? = some (cell.setSlot j v)) : ∃ V', t_OB a cC N iS H1 V' := by
  obtain ⟨cell2, q1, q2, q3, q4⟩ := h
  rw [hc] at q1
  cases q1
  refine ⟨fun k => if iS k = j then v else V k, _, h1, q2, q3, fun k hk => ?_⟩
  show (cell.setSlot j v).slots[iS k]? = some (if iS k = j then v else V k)
  by_cases e : iS k = j
  · rw [if_pos e, e]
    exact Cell.slots_setSlot_self _ (k2_hasslot (by rw [← e]; exact q4 k hk))
  · rw [if_neg e, slot_ne _ _ (fun h => e h.symm)]
    exact q4 k hk
section ZFIELDS
variable {p : Program} {l : Launch} {e : Env} {R : Room} {s : State} {m : MethodId} {args : Array Value} {below : List Frame} {meth : Method} {c : Code} {Q : State → Prop} {cc : ByteArray} {pc : Nat}
variable {OB : Nat → Nat} {D : va_G} {DA : Nat → ClassId} {cl : List vw_C} {TY : List zTy} {PHI : List (List Nat)} {sz : Nat} {raw : Option Nat} {pu : Bool} {T0 : zTp} {H0 : Heap} {env0 : List Value} {nL : Nat} {st st' : zS} {good : Nat → zS → Prop}
variable {Ts : List Cond} {own : String} {FT : Nat → Nat → FieldType} {FL : List (Nat × Nat × Nat)} {tys : List (ClassId × FieldType)}
variable {T : zTp} {H : Heap} {locs : List Loc} {env : List Value} {ls : Array Slot} {stk : List Value} {cells slots : Nat} {rest : List Value}
theorem z_apart {ci : Nat} {r : vw_C} (hS : z_St Ts cl FT own FL) (hD : z_Dy s m args Ts own D cl DA tys) (hc : cl[ci]? = some r) : ∀ x y, x < r.2.2 → y < r.2.2 → x ≠ y → D.2 ci x ≠ D.2 ci y :=
  va_apart (own := own) hD.1 (hS.1 ci r hc).1 (FT ci) (hS.1 ci r hc).2.1 (hS.1 ci r hc).2.2.1 hD.2.2.1 hc
/-- a field is read, by its slot -/
theorem z_getrow (hx : p.tables.exec = Jvm.exec) (hb : c.code = cc) (hS : z_St Ts cl FT own FL) (hD : z_Dy s m args Ts own D cl DA tys) {q : Nat × Nat × Nat} (hq : q ∈ FL) {a : Nat} {v : Value} (hv : z_sl H a (D.2 q.2.1 q.2.2) v) (hd : decode cc pc = .ok (.getfield q.1, 3))
    (kk : W p l e R s m args below meth c H locs cells slots Q (F0 m (pc + 3) ls (v :: rest))) : W p l e R s m args below meth c H locs cells slots Q (F0 m pc ls (.ref a :: rest)) := by
  obtain ⟨r, hc, hk, hl⟩ := hS.2 q hq
  obtain ⟨hts, hown, hK, -⟩ := hD
  obtain ⟨hSl, hfc, kC, hkC, hkind⟩ := hK.1 _ _ hc
  obtain ⟨cf, kf, fi, f, hi, hsl⟩ := hSl q.2.2 hk
  obtain ⟨cell, g1, g2, g3⟩ := hv
  exact W.getf hx hb hown (hts _ hl) hi (u_facts hfc hkC (u_lays hts (hS.1 _ _ hc).1 hk) hi).1 g1 (by rw [g2]; exact fun h => by cases h) (v := v) (by rw [hsl]; exact g3) rfl rfl hd kk
/-- a field is set -/
theorem z_putrow (hx : p.tables.exec = Jvm.exec) (hb : c.code = cc) (hS : z_St Ts cl FT own FL) (hD : z_Dy s m args Ts own D cl DA tys) {q : Nat × Nat × Nat} (hq : q ∈ FL) {r : vw_C} (hc : cl[q.2.1]? = some r) {a : Nat} {V : Nat → Value} (ho : t_OB a (D.1 q.2.1) r.2.2 (D.2 q.2.1) H V) (hfin : (r.2.1 q.2.2).2.2.2 = false ∨ (meth.name = "<init>" ∧ r.1 = own)) {v : Value} (hn : narrow (FT q.2.1 q.2.2) v = v ∧ fits (FT q.2.1 q.2.2) v = true) (hd : decode cc pc = .ok (.putfield q.1, 3))
    (kk : ∀ (H1 : Heap) (cell : Cell), H[a]? = some cell → H1[a]? = some (cell.setSlot (D.2 q.2.1 q.2.2) v) → H1.size = H.size → (∀ b : Nat, b ≠ a → H1[b]? = H[b]?) → t_OB a (D.1 q.2.1) r.2.2 (D.2 q.2.1) H1 (updV V q.2.2 v) → W p l e R s m args below meth c H1 (locs ++ [⟨a, D.2 q.2.1 q.2.2⟩]) cells slots Q (F0 m (pc + 3) ls rest)) : W p l e R s m args below meth c H locs cells slots Q (F0 m pc ls (v :: .ref a :: rest)) := by
  have hap := z_apart hS hD hc
  obtain ⟨r2, hc2, hk, hl⟩ := hS.2 q hq
  rw [hc] at hc2
  cases hc2
  obtain ⟨hts, hown, hK, -⟩ := hD
  obtain ⟨hSl, hfc, kC, hkC, hkind⟩ := hK.1 _ _ hc
  obtain ⟨cf, kf, fi, f, hi, hsl⟩ := hSl q.2.2 hk
  obtain ⟨cell, q1, q2, q3, q4⟩ := ho
  have hlay := hts _ ((hS.1 _ _ hc).1 _ (u_in_lay hk))
  have hdt := (hS.1 _ _ hc).2.1 _ hk
  have hst := (u_facts hfc hkC (u_lays hts (hS.1 _ _ hc).1 hk) hi).1
  have fin : ∀ H', H'[a]? = some (cell.setSlot f.slot v) → t_OB a (D.1 q.2.1) r.2.2 (D.2 q.2.1) H' (updV V q.2.2 v) := by
    intro H' e1
    rw [hsl] at e1
    exact ⟨_, e1, q2, q3, t_set q4 hap hk v⟩
  cases hf : (r.2.1 q.2.2).2.2.2 with
  | false =>
    unfold u_lay at hlay
    rw [if_neg (by rw [hf]; decide)] at hlay
    have h6 := u_store hfc hkC hkind hlay hi hdt hn.1 hn.2
    refine W.putK hx hb (f := f) ⟨hown, hts _ hl, ⟨_, _, _, hi⟩, hst⟩ (by rw [q2]; exact h6) q1 q3 (by rw [hsl]; exact k2_hasslot (q4 _ hk)) rfl rfl hd fun H' e1 e2 e3 => ?_
    have := kk H' cell q1 (by rw [← hsl]; exact e1) e2 e3 (fin H' e1)
    rwa [← hsl] at this
  | true =>
    unfold u_lay at hlay
    rw [if_pos hf] at hlay
    rcases hfin with h | ⟨hin, hcl⟩
    · rw [hf] at h; cases h
    · have hcf : m.cls = cf := by
        obtain ⟨_, _, c', _, _, _, -, -, hf', -, -, -, hown2, -⟩ := Cond.laysFinal_spec hlay
        have e1 : c' = cf := by have := hi.symm.trans hf'; simp at this; exact this.1.symm
        rw [(hS.1 _ _ hc).2.2.2 _ hk, hcl] at hown2
        rw [← e1]; exact Option.some.inj (hown.symm.trans hown2)
      have h6 := u_fits hfc hkC hkind (Or.inr hlay) hi hdt hn.1 hn.2
      refine W.putFinK hx hb hown (hts _ hl) hi hst hcf hin (by rw [q2]; exact h6) q1 q3 (by rw [hsl]; exact k2_hasslot (q4 _ hk)) rfl rfl hd fun H' e1 e2 e3 => ?_
      have := kk H' cell q1 (by rw [← hsl]; exact e1) e2 e3 (fin H' e1)
      rwa [← hsl] at this
end ZFIELDS
end
section
/-! Fields read and set. -/
def z_ld (st : zS) (S : List Nat) (c : zV) (fs : List (Nat × Nat × Nat × Nat)) (es : List (Nat × Nat × Nat)) : zS := (z_L st, z_n st :: S, z_n st + 1, (z_n st, c) :: z_V st, fs ++ z_F st, es ++ z_E st, z_R st, z_X st, z_C st, z_ph st)
def z_getf (TY : List zTy) (FL : List (Nat × Nat × Nat)) (st : zS) (i : Nat) : Option zS := match z_S st, FL.find? (fun q => Nat.beq q.1 i) with
  | d :: S, some q => (match z_ffind st d q.2.1 q.2.2, z_isr st d with
    | some w, true => some (z_stS st (w :: S))
    | none, true => (match z_get (z_V st) d with
      | some (.inr (.inl t)) => (match TY[t]? with
        | some (.inl o) => (match o.2[q.2.2]? with
          | some c => cond (Nat.beq o.1 q.2.1) (some (z_ld st S c [(d, q.2.1, q.2.2, z_n st)] [])) none
          | none => none)
        | _ => none)
      | _ => none)
    | _, _ => none)
  | _, _ => none
def z_wr (st : zS) (S : List Nat) (F : List (Nat × Nat × Nat × Nat)) (E : List (Nat × Nat × Nat)) : zS := (z_L st, S, z_n st, z_V st, F, E, z_R st, z_X st, z_C st, z_ph st)
def z_putf (TY : List zTy) (cl : List vw_C) (FT : Nat → Nat → FieldType) (ini : Option Nat) (FL : List (Nat × Nat × Nat)) (st : zS) (i : Nat) : Option zS := match z_S st, FL.find? (fun q => Nat.beq q.1 i) with
  | v :: d :: S, some q => (match z_get (z_V st) v, cl[q.2.1]? with
    | some c, some r => cond (z_fit (FT q.2.1 q.2.2) c && (!((r.2.1 q.2.2).2.2.2) || (match ini with | some j => Nat.beq j q.2.1 | none => false)) &&
        (match z_get (z_V st) d with
          | some (.inr (.inl t)) => (match TY[t]? with
            | some (.inl o) => (match o.2[q.2.2]? with
              | some c0 => Nat.beq o.1 q.2.1 && z_le c c0 && !((r.2.1 q.2.2).2.2.2) && !(zj_prot TY t) && (zj_slots o.1).all (fun k => !(Nat.beq k q.2.2) && Nat.blt k o.2.length)
              | none => false)
            | _ => false)
          | none => (z_X st).any (fun p => Nat.beq p.1 d && Nat.beq p.2 q.2.1)
          | _ => false))
        (some (z_wr st S ((d, q.2.1, q.2.2, v) :: (z_F st).filter (fun f => z_apt st f.1 d || (Nat.beq f.2.1 q.2.1 && !(Nat.beq f.2.2.1 q.2.2)))) ((z_E st).filter (fun f => z_apt st f.1 d)))) none
    | _, _ => none)
  | _, _ => none
section ZFIELDS2
variable {p : Program} {l : Launch} {e : Env} {R : Room} {s : State} {m : MethodId} {args : Array Value} {below : List Frame} {meth : Method} {c : Code} {Q : State → Prop} {cc : ByteArray} {pc : Nat}
variable {OB : Nat → Nat} {D : va_G} {DA : Nat → ClassId} {cl : List vw_C} {TY : List zTy} {PHI : List (List Nat)} {sz : Nat} {raw : Option Nat} {pu : Bool} {T0 : zTp} {H0 : Heap} {env0 : List Value} {nL : Nat} {st st' : zS} {good : Nat → zS → Prop}
variable {Ts : List Cond} {own : String} {FT : Nat → Nat → FieldType} {FL : List (Nat × Nat × Nat)} {tys : List (ClassId × FieldType)}
variable {T : zTp} {H : Heap} {locs : List Loc} {env : List Value} {ls : Array Slot} {stk : List Value} {cells slots : Nat} {rest : List Value}
theorem z_sat_ld (h : z_sat OB D DA cl TY PHI sz raw pu T0 H0 env0 nL st T H locs env ls stk) {S : List Nat} {k : List Value} (hS : z_stk env S k) {c : zV} {v : Value} (hv : z_v OB T c v) {fs : List (Nat × Nat × Nat × Nat)} (hf : z_ff D cl H (env ++ [v]) fs) {es : List (Nat × Nat × Nat)} (he : z_fe H (env ++ [v]) es) :
    z_sat OB D DA cl TY PHI sz raw pu T0 H0 env0 nL (z_ld st S c fs es) T H locs (env ++ [v]) ls (v :: k) := by
  obtain ⟨h1, h2, h3, h4, h5, h6, h7, h8, h9, h10⟩ := z_sat_psh h hS hv (rs := []) (fun q hq => absurd hq List.not_mem_nil)
  refine ⟨h1, h2, h3, h4, h5, fun q hq => ?_, fun q hq => ?_, h8, h9, h10⟩
  · rcases List.mem_append.mp hq with hq | hq
    · exact hf q hq
    · exact h6 q hq
  · rcases List.mem_append.mp hq with hq | hq
    · exact he q hq
    · exact h7 q hq
theorem z_r_getf (hg : z_Good p l e R s m args below meth c Q OB D DA cl TY PHI sz raw pu T0 H0 env0 nL good) (hx : p.tables.exec = Jvm.exec) (hb : c.code = cc) (hSt : z_St Ts cl FT own FL) (hD : z_Dy s m args Ts own D cl DA tys) {i : Nat} (hd : decode cc pc = .ok (.getfield i, 3)) (h : z_getf TY FL st i = some st') (k : good (pc + 3) st') : good pc st := by
  refine (hg _ _).mpr fun T H locs env ls stk hs => ?_
  unfold z_getf at h
  split at h
  · rename_i d S q hS hq
    have hm := List.mem_of_find?_eq_some hq
    have hi0 := List.find?_some hq
    have hi : q.1 = i := z_beq hi0
    obtain ⟨v, kk, rfl, e1, hk⟩ := z_stk_cons hS hs.2.2.2.1
    split at h
    · rename_i w hw hr
      cases h
      obtain ⟨a, v2, g1, g2, g3⟩ := z_ffind_ok hw hs
      rw [e1] at g1
      cases g1
      exact z_getrow hx hb hSt hD hm g3 (by rw [hi]; exact hd) ((hg _ _).mp k T H locs env ls _ (z_sat_stS hs ⟨_, _, rfl, g2, hk⟩))
    · split at h
      · rename_i t ht
        split at h
        · rename_i o ho
          split at h
          · rename_i c0 hc0
            obtain ⟨hb1, rfl⟩ := z_cond h
            have ho1 := z_beq hb1
            obtain ⟨ci, fl⟩ := o
            have ho1 : ci = q.2.1 := ho1
            subst ho1
            obtain ⟨a, r, V, g1, g2, g3, g4, g5, g6⟩ := z_obj hs ht ho
            rw [e1] at g1
            cases g1
            have hlt : q.2.2 < r.2.2 := by rw [← g4]; exact (List.getElem?_eq_some_iff.mp hc0).1
            have hsl : z_sl H a (D.2 q.2.1 q.2.2) (V q.2.2) := by
              obtain ⟨cell, x1, x2, x3, x4⟩ := g5
              exact ⟨cell, x1, x3, x4 _ hlt⟩
            have hn : (env ++ [V q.2.2])[z_n st]? = some (V q.2.2) := by rw [← hs.1]; simp
            refine z_getrow hx hb hSt hD hm hsl (by rw [hi]; exact hd) ((hg _ _).mp k T H locs _ ls _ (z_sat_ld hs hk (g6 _ _ hc0) (fun f hf => ?_) (fun f hf => absurd hf List.not_mem_nil)))
            rw [List.mem_singleton.mp hf]
            exact ⟨a, _, r, z_app e1, hn, g3, hlt, hsl⟩
          · cases h
        · cases h
      · cases h
    · cases h
  · cases h
theorem z_sl_kept0 {H1 : Heap} {a k : Nat} {w : Value} (h : z_sl H a k w) (e : H1[a]? = H[a]?) : z_sl H1 a k w := by
  obtain ⟨cell, h1, h2, h3⟩ := h
  exact ⟨cell, by rw [e]; exact h1, h2, h3⟩
/-- a typed cell is written -/
theorem z_mem_set (hpu : pu = false) {ph k : Nat} {H1 : Heap} {a t : Nat} {ty : zTy} (h : z_mem OB D DA cl TY PHI sz raw pu T0 H0 T H locs ph) (ht : T a = some t) (hty : TY[t]? = some ty) (hc : z_cell OB D DA cl T H1 a ty) (hz : H1.size = H.size) (oq : ∀ b : Nat, b ≠ a → H1[b]? = H[b]?) (hfw : ∀ ci fl r k w, ty = .inl (ci, fl) → cl[ci]? = some r → k < r.2.2 → (r.2.1 k).2.2.2 = true → z_sl H a (D.2 ci k) w → z_sl H1 a (D.2 ci k) w) (hJ : z_J D DA TY T H1) : z_mem OB D DA cl TY PHI sz raw pu T0 H0 T H1 (locs ++ [⟨a, k⟩]) ph := by
  obtain ⟨h1, h2, h3, h4, h5⟩ := h
  refine ⟨⟨fun b u hb => ?_, hJ⟩, ⟨h2.1, (fun h => by rw [hpu] at h; cases h), z_fin_tr h2.2.2 fun b u ci fl hb hty2 => ⟨u, fl, hb, hty2, fun r k2 w x1 x2 x3 x4 => ?_⟩⟩, h3, fun q hq1 hq2 hq3 => ?_, h5.put hz oq (h2.1 a t ht)⟩
  · by_cases e : b = a
    · subst e
      rw [ht] at hb
      cases hb
      exact ⟨ty, hty, hc⟩
    · obtain ⟨ty2, g1, g2⟩ := h1.1 b u hb
      exact ⟨ty2, g1, z_cell_kept g2 (oq b e)⟩
  · by_cases e : b = a
    · subst e
      rw [ht] at hb
      cases hb
      rw [hty] at hty2
      exact hfw ci fl r k2 w (Option.some.inj hty2) x1 x2 x3 x4
    · exact z_sl_kept0 x4 (oq b e)
  · obtain ⟨g1, g2⟩ := h4 q hq1 hq2 hq3
    refine ⟨g1, ?_⟩
    rw [oq q (fun e => by subst e; rw [g1] at ht; cases ht)]
    exact g2
/-- a raw cell is written -/
theorem z_mem_setX (hpu : pu = false) {ph k : Nat} {H1 : Heap} {a : Nat} (h : z_mem OB D DA cl TY PHI sz raw pu T0 H0 T H locs ph) (ht : T a = none) (ha : sz ≤ a ∧ (H0.size ≤ a ∨ raw = some a)) (hz : H1.size = H.size) (oq : ∀ b : Nat, b ≠ a → H1[b]? = H[b]?) : z_mem OB D DA cl TY PHI sz raw pu T0 H0 T H1 (locs ++ [⟨a, k⟩]) ph := by
  obtain ⟨h1, h2, h3, h4, h5⟩ := h
  refine ⟨⟨fun b u hb => ?_, zJ_raw h1.2 ht oq⟩, ⟨h2.1, (fun h => by rw [hpu] at h; cases h), z_fin_tr h2.2.2 fun b u ci fl hb hty2 => ⟨u, fl, hb, hty2, fun r k2 w x1 x2 x3 x4 => z_sl_kept0 x4 (oq b (fun e => by subst e; rw [hb] at ht; cases ht))⟩⟩, h3, fun q hq1 hq2 hq3 => ?_, h5.put hz oq ha.1⟩
  · obtain ⟨ty2, g1, g2⟩ := h1.1 b u hb
    exact ⟨ty2, g1, z_cell_kept g2 (oq b (fun e => by subst e; rw [hb] at ht; cases ht))⟩
  · obtain ⟨g1, g2⟩ := h4 q hq1 hq2 hq3
    refine ⟨g1, ?_⟩
    rw [oq q (fun e => by
      subst e
      rcases ha.2 with h | h
      · omega
      · exact hq3 h)]
    exact g2
theorem z_fx_upd {n0 : Nat} {H1 : Heap} {a : Nat} (oq : ∀ b : Nat, b ≠ a → H1[b]? = H[b]?) (ha : ∀ (cC : ClassId) (N : Nat) (iS : Nat → Nat) (V : Nat → Value), t_OB a cC N iS H V → ∃ V', t_OB a cC N iS H1 V') : ∀ {X : List (Nat × Nat)}, z_fx D cl T sz n0 raw H env X → z_fx D cl T sz n0 raw H1 env X
  | [], h => h
  | x :: X, ⟨⟨b, h1, h2, h3, ⟨r, V, h4, h4b⟩, h5⟩, hr⟩ => by
    refine ⟨⟨b, h1, h2, h3, ?_, h5⟩, z_fx_upd oq ha hr⟩
    by_cases e : b = a
    · subst e
      obtain ⟨V', hV⟩ := ha _ _ _ _ h4b
      exact ⟨r, V', h4, hV⟩
    · exact ⟨r, V, h4, h4b.kept (oq b e)⟩
theorem z_r_putf (hpu : pu = false) (hg : z_Good p l e R s m args below meth c Q OB D DA cl TY PHI sz raw pu T0 H0 env0 nL good) (hx : p.tables.exec = Jvm.exec) (hb : c.code = cc) (hSt : z_St Ts cl FT own FL) (hD : z_Dy s m args Ts own D cl DA tys) {ini : Option Nat} (hini : ∀ j r, ini = some j → cl[j]? = some r → meth.name = "<init>" ∧ r.1 = own) {i : Nat} (hd : decode cc pc = .ok (.putfield i, 3)) (h : z_putf TY cl FT ini FL st i = some st') (k : good (pc + 3) st') : good pc st := by
  refine (hg _ _).mpr fun T H locs env ls stk hs => ?_
  unfold z_putf at h
  split at h
  · rename_i v d S q hS hq
    have hm := List.mem_of_find?_eq_some hq
    have hi0 := List.find?_some hq
    have hi : q.1 = i := z_beq hi0
    split at h
    · rename_i c1 r hc1 hr
      obtain ⟨hcc, rfl⟩ := z_cond h
      simp only [Bool.and_eq_true] at hcc
      obtain ⟨⟨hfit, hfin0⟩, hcase⟩ := hcc
      obtain ⟨vv, kk, rfl, e1, hk⟩ := z_stk_cons hS hs.2.2.2.1
      obtain ⟨vd, k2, rfl, e2, hk2⟩ := hk
      obtain ⟨w, e3, hw⟩ := z_get_ok hs.2.2.2.2.1 hc1
      have hvw : vv = w := Option.some.inj (e1.symm.trans e3)
      subst hvw
      have hnf := z_fit_ok hfit hw
      have hfin : (r.2.1 q.2.2).2.2.2 = false ∨ (meth.name = "<init>" ∧ r.1 = own) := by
        rw [Bool.or_eq_true] at hfin0
        rcases hfin0 with h1 | h1
        · exact Or.inl (by simpa using h1)
        · cases hin : ini with
          | none => rw [hin] at h1; cases h1
          | some j =>
            rw [hin] at h1
            have := z_beq h1
            subst this
            exact Or.inr (hini _ r hin hr)
      have fin : ∀ (a : Nat) (V : Nat → Value) (H1 : Heap) (cell : Cell), env[d]? = some (.ref a) → t_OB a (D.1 q.2.1) r.2.2 (D.2 q.2.1) H V → q.2.2 < r.2.2 → H[a]? = some cell → H1[a]? = some (cell.setSlot (D.2 q.2.1 q.2.2) vv) → H1.size = H.size → (∀ b : Nat, b ≠ a → H1[b]? = H[b]?) → t_OB a (D.1 q.2.1) r.2.2 (D.2 q.2.1) H1 (updV V q.2.2 vv) →
          z_mem OB D DA cl TY PHI sz raw pu T0 H0 T H1 (locs ++ [⟨a, D.2 q.2.1 q.2.2⟩]) (z_ph st) → W p l e R s m args below meth c H1 (locs ++ [⟨a, D.2 q.2.1 q.2.2⟩]) (z_C st).1 (z_C st).2 Q (F0 m (pc + 3) ls k2) := by
        intro a V H1 cell g1 g2 glt g3 g4 g5 g6 g7 g8
        refine (hg _ _).mp k T H1 _ env ls k2 ⟨hs.1, hs.2.1, hs.2.2.1, hk2, hs.2.2.2.2.1, fun f hf => ?_, fun f hf => ?_, hs.2.2.2.2.2.2.2.1, z_fx_upd g6 (fun cC N iS V2 h2 => z_ob_set h2 g3 g4) hs.2.2.2.2.2.2.2.2.1, g8⟩
        · rcases List.mem_cons.mp hf with rfl | hf
          · refine ⟨a, vv, r, g1, e1, hr, glt, ?_⟩
            obtain ⟨cell2, x1, x2, x3, x4⟩ := g7
            refine ⟨cell2, x1, x3, ?_⟩
            rw [x4 _ glt]
            simp [updV]
          · obtain ⟨hf1, hf2⟩ := List.mem_filter.mp hf
            obtain ⟨b, u, r2, y1, y2, y3, y4, y5⟩ := hs.2.2.2.2.2.1 f hf1
            refine ⟨b, u, r2, y1, y2, y3, y4, ?_⟩
            rw [Bool.or_eq_true] at hf2
            rcases hf2 with h1 | h1
            · exact z_sl_kept y5 (g6 b (z_apt_ok h1 hs y1 g1))
            · simp only [Bool.and_eq_true, Bool.not_eq_true'] at h1
              have ec := z_beq h1.1
              rw [ec] at y3 y5 ⊢
              rw [hr] at y3
              cases y3
              have hne : f.2.2.1 ≠ q.2.2 := by
                intro h3
                rw [h3] at h1
                simp at h1
              by_cases hba : b = a
              · subst hba
                obtain ⟨cell3, z1, z2, z3⟩ := y5
                rw [g3] at z1
                cases z1
                refine ⟨_, g4, z2, ?_⟩
                rw [slot_ne _ _ (z_apart hSt hD hr _ _ glt y4 (fun h => hne h.symm))]
                exact z3
              · exact z_sl_kept y5 (g6 b hba)
        · obtain ⟨hf1, hf2⟩ := List.mem_filter.mp hf
          obtain ⟨b, x, u, y1, y2, y3, y4, y5⟩ := hs.2.2.2.2.2.2.1 f hf1
          exact ⟨b, x, u, y1, y2, y3, y4, z_sl_kept y5 (g6 b (z_apt_ok hf2 hs y1 g1))⟩
      split at hcase
      · rename_i t ht
        split at hcase
        · rename_i o ho
          split at hcase
          · rename_i c0 hc0
            simp only [Bool.and_eq_true] at hcase
            obtain ⟨⟨⟨hcase, hnfin⟩, hprot⟩, hslots⟩ := hcase
            obtain ⟨ci, fl⟩ := o
            have ho1 : ci = q.2.1 := z_beq hcase.1
            subst ho1
            obtain ⟨a, r2, V, g1, g2, g3, g4, g5, g6⟩ := z_obj hs ht ho
            rw [hr] at g3
            cases g3
            rw [e2] at g1
            cases g1
            have hlt : q.2.2 < r.2.2 := by rw [← g4]; exact (List.getElem?_eq_some_iff.mp hc0).1
            refine z_putrow hx hb hSt hD hm hr g5 hfin hnf (by rw [hi]; exact hd) fun H1 cell x1 x2 x3 x4 x5 => ?_
            refine fin a V H1 cell e2 g5 hlt x1 x2 x3 x4 x5 (z_mem_set hpu hs.2.2.2.2.2.2.2.2.2 g2 ho ⟨r, hr, g4, _, x5, fun j c2 hj => ?_⟩ x3 x4 (fun ci2 fl2 r2 k2 w2 z1 z2 z3 z4 z5 => ?_) (zJ_set hs.2.2.2.2.2.2.2.2.2.1.2 hs.2.2.2.2.2.2.2.2.2.1.1 g2 (by simpa using hprot) x4 (fun ci2 fl2 hh k2 hk2 w2 hw2 => by
              rw [ho] at hh
              cases hh
              have hk3 := List.all_eq_true.mp hslots k2 hk2
              simp only [Bool.and_eq_true, Bool.not_eq_true'] at hk3
              have hkne : k2 ≠ q.2.2 := fun h => by rw [h, Nat.beq_refl] at hk3; cases hk3.1
              have hk4 : k2 < r.2.2 := by rw [← g4]; exact z_blt hk3.2
              obtain ⟨cell3, u1, u2, u3⟩ := hw2
              rw [x1] at u1
              cases u1
              refine ⟨_, x2, u2, ?_⟩
              rw [slot_ne _ _ (z_apart hSt hD hr _ _ hlt hk4 (fun h => hkne h.symm))]
              exact u3)))
            rotate_left
            · cases z1
              rw [hr] at z2
              cases z2
              have hkne : k2 ≠ q.2.2 := fun h => by rw [h] at z4; rw [z4] at hnfin; cases hnfin
              obtain ⟨cell3, u1, u2, u3⟩ := z5
              rw [x1] at u1
              cases u1
              refine ⟨_, x2, u2, ?_⟩
              rw [slot_ne _ _ (z_apart hSt hD hr _ _ hlt z3 (fun h => hkne h.symm))]
              exact u3
            by_cases hjk : j = q.2.2
            · subst hjk
              have hj : fl[q.2.2]? = some c2 := hj
              have hc0 : fl[q.2.2]? = some c0 := hc0
              rw [hc0] at hj
              cases hj
              have : updV V q.2.2 vv q.2.2 = vv := by simp [updV]
              rw [this]
              exact z_le_ok hcase.2 hw
            · have : updV V q.2.2 vv j = V j := by simp [updV, hjk]
              rw [this]
              exact g6 j c2 hj
          · cases hcase
        · cases hcase
      · rename_i hn
        obtain ⟨x, hx1, hx2⟩ := List.any_eq_true.mp hcase
        rw [Bool.and_eq_true] at hx2
        obtain ⟨a, g1, g2, g3, r2, V, g4, g5⟩ := z_fx_in hs.2.2.2.2.2.2.2.2.1 x hx1
        rw [z_beq hx2.1, e2] at g1
        cases g1
        rw [z_beq hx2.2] at g4 g5
        rw [hr] at g4
        cases g4
        have hlt : q.2.2 < r.2.2 := by
          obtain ⟨r3, y1, y2, _⟩ := hSt.2 q hm
          rw [hr] at y1
          cases y1
          exact y2
        refine z_putrow hx hb hSt hD hm hr g5 hfin hnf (by rw [hi]; exact hd) fun H1 cell x1 x2 x3 x4 x5 => ?_
        exact fin a V H1 cell e2 g5 hlt x1 x2 x3 x4 x5 (z_mem_setX hpu hs.2.2.2.2.2.2.2.2.2 g2 g3 x3 x4)
      · cases hcase
    · cases h
  · cases h
end ZFIELDS2
end
section
/-! Arrays read and written. -/
def z_seg (sg : List ((Nat × Nat) × zV)) (r : zR) : Option zV := (sg.find? (fun g => z_ile (g.1.1 : Int) r.1 && z_ile r.2 (g.1.2 : Int))).map (fun g => g.2)
def z_ald (TY : List zTy) (ek : Nat) (st : zS) : Option zS := match z_S st with
  | j :: d :: S => (match z_get (z_V st) j, z_get (z_V st) d with
    | some (.inl r), some (.inr (.inl t)) => (match TY[t]? with
      | some (.inr q) => cond (Nat.beq q.1 ek && z_ile 0 r.1 && z_ile (r.2 + 1) (q.2.1.1 : Int)) (match z_efind st d j with
        | some w => some (z_stS st (w :: S))
        | none => (match z_seg q.2.2 r with
          | some c => some (z_ld st S c [] [(d, j, z_n st)])
          | none => none)) none
      | _ => none)
    | _, _ => none)
  | _ => none
/-- what an array keeps of a value -/
def z_kep (ek : Nat) (c : zV) : Option zV := match ek, c with
  | 0, .inl r => some (.inl r)
  | 1, .inl r => some (.inl (z_i2b r))
  | 2, .inr (.inr 0) => some (.inr (.inr 0))
  | _, _ => none
def z_ast (TY : List zTy) (RO : List Nat) (ek : Nat) (st : zS) : Option zS := match z_S st with
  | v :: j :: d :: S => (match z_get (z_V st) j, z_get (z_V st) d, (z_get (z_V st) v).bind (z_kep ek) with
    | some (.inl r), some (.inr (.inl t)), some cv => (match TY[t]? with
      | some (.inr q) => cond (Nat.beq q.1 ek && z_ile 0 r.1 && z_ile (r.2 + 1) (q.2.1.1 : Int) && (!(RO.any (fun x => Nat.beq x t)) && !(zj_prot TY t)) && q.2.2.all (fun g => z_ile (r.2 + 1) (g.1.1 : Int) || z_ile ((g.1.2 : Int) + 1) r.1 || z_le cv g.2))
          (some (z_wr st S ((z_F st).filter (fun f => z_apt st f.1 d)) (cond (Nat.beq ek 1) [] [(d, j, v)] ++ (z_E st).filter (fun f => z_apt st f.1 d || z_dis st f.2.1 j)))) none
      | _ => none)
    | _, _, _ => none)
  | _ => none
def z_alen (TY : List zTy) (st : zS) : Option zS := match z_S st with
  | d :: S => (match z_get (z_V st) d with
    | some (.inr (.inl t)) => (match TY[t]? with
      | some (.inr q) => cond (Nat.ble q.1 2) (some (z_psh st S (.inl ((q.2.1.1 : Int), (q.2.1.2 : Int))) [])) none
      | _ => none)
    | _ => none)
  | _ => none
section ZARRAYS
variable {p : Program} {l : Launch} {e : Env} {R : Room} {s : State} {m : MethodId} {args : Array Value} {below : List Frame} {meth : Method} {c : Code} {Q : State → Prop} {cc : ByteArray} {pc : Nat}
variable {OB : Nat → Nat} {D : va_G} {DA : Nat → ClassId} {cl : List vw_C} {TY : List zTy} {PHI : List (List Nat)} {sz : Nat} {raw : Option Nat} {pu : Bool} {T0 : zTp} {H0 : Heap} {env0 : List Value} {nL : Nat} {st st' : zS} {good : Nat → zS → Prop}
variable {Ts : List Cond} {own : String} {tys : List (ClassId × FieldType)} {RO : List Nat}
variable {T : zTp} {H : Heap} {locs : List Loc} {env : List Value} {ls : Array Slot} {stk : List Value} {cells slots : Nat} {rest : List Value}
theorem z_isarr (hD : z_Dy s m args Ts own D cl DA tys) {k : Nat} (hk : k < 3) (n : Nat) (f : Nat → Value) : s.isArrayOf (arrV (DA k) n f) (z_ek k) := (hD.2.2.1.2 k _ (hD.2.2.2 k hk)).1 n f
theorem z_clamp (x : Int32) : x.toNatClampNeg = x.toInt.toNat := rfl
theorem z_vpin {x : Int32} {r : zR} {lo n : Nat} (hx : z_in r x) (h0 : z_ile 0 r.1 = true) (h1 : z_ile (r.2 + 1) (lo : Int) = true) (hn : lo ≤ n) : ¬ (x < 0 ∨ n ≤ x.toNatClampNeg) ∧ 0 ≤ x.toInt ∧ x.toInt.toNat < n := by
  have q0 := z_ile_ok h0
  have q1 := z_ile_ok h1
  obtain ⟨x1, x2⟩ := hx
  refine ⟨fun h => ?_, by omega, by omega⟩
  rcases h with h | h
  · have := Int32.lt_iff_toInt_lt.mp h
    have z0 : (0 : Int32).toInt = 0 := rfl
    omega
  · rw [z_clamp] at h; omega
/-- an entry is read -/
theorem z_ald_ok {ek : Nat} (hek : ek < 3) (hD : z_Dy s m args Ts own D cl DA tys) (h : z_ald TY ek st = some st') (hs : z_sat OB D DA cl TY PHI sz raw pu T0 H0 env0 nL st T H locs env ls stk) :
    ∃ (a n : Nat) (f : Nat → Value) (x : Int32) (k : List Value) (env' : List Value), stk = .int x :: .ref a :: k ∧ H[a]? = some (arrV (DA ek) n f) ∧ ¬ (x < 0 ∨ n ≤ x.toNatClampNeg) ∧ z_C st' = z_C st ∧ (arrV (DA ek) n f).slots[x.toNatClampNeg]? = some (f x.toNatClampNeg) ∧
      z_sat OB D DA cl TY PHI sz raw pu T0 H0 env0 nL st' T H locs env' ls (f x.toNatClampNeg :: k) := by
  unfold z_ald at h
  split at h
  · rename_i j d S hS
    split at h
    · rename_i r t hj ht
      split at h
      · rename_i q hq
        cases hc : (Nat.beq q.1 ek && z_ile 0 r.1 && z_ile (r.2 + 1) (q.2.1.1 : Int)) with
        | false => rw [hc] at h; cases h
        | true =>
          rw [hc] at h
          simp only [Bool.and_eq_true] at hc
          obtain ⟨⟨hc1, hc2⟩, hc3⟩ := hc
          obtain ⟨ek2, ⟨lo, hi⟩, sg⟩ := q
          have he : ek2 = ek := z_beq hc1
          subst he
          obtain ⟨vj, k1, rfl, e1, hk1⟩ := z_stk_cons hS hs.2.2.2.1
          obtain ⟨vd, k2, rfl, e2, hk2⟩ := hk1
          obtain ⟨a, n, f, g1, g2, g3, g4, g5, g6, g7⟩ := z_arr hs ht hq
          obtain ⟨w, e3, x, rfl, hx⟩ := z_get_ok hs.2.2.2.2.1 hj
          have q1 : vj = .int x := Option.some.inj (e1.symm.trans e3)
          have q2 : vd = .ref a := Option.some.inj (e2.symm.trans g1)
          subst q1; subst q2
          obtain ⟨b1, b2, b3⟩ := z_vpin hx hc2 hc3 g4
          have hread := arrV_read (DA ek2) f b3
          have hsl : z_sl H a x.toInt.toNat (f x.toInt.toNat) := ⟨_, g3, rfl, hread⟩
          have h : (match z_efind st d j with
            | some w => some (z_stS st (w :: S))
            | none => (match z_seg sg r with
              | some c => some (z_ld st S c [] [(d, j, z_n st)])
              | none => none)) = some st' := h
          cases hf : z_efind st d j with
          | some w =>
            rw [hf] at h
            cases h
            obtain ⟨a2, v2, y1, y2, y3, cell, y4, y5, y6⟩ := z_efind_ok hf hs e3
            rw [g1] at y1
            cases y1
            rw [g3] at y4
            cases y4
            rw [hread] at y6
            cases y6
            exact ⟨a, n, f, x, k2, env, rfl, g3, b1, rfl, hread, z_sat_stS hs ⟨_, _, rfl, y2, hk2⟩⟩
          | none =>
            rw [hf] at h
            cases hsg : z_seg sg r with
            | none => rw [hsg] at h; cases h
            | some c1 =>
              rw [hsg] at h
              cases h
              unfold z_seg at hsg
              cases hfi : sg.find? (fun g => z_ile (g.1.1 : Int) r.1 && z_ile r.2 (g.1.2 : Int)) with
              | none => rw [hfi] at hsg; cases hsg
              | some g =>
                rw [hfi] at hsg
                cases hsg
                have hm := List.mem_of_find?_eq_some hfi
                have hp := List.find?_some hfi
                rw [Bool.and_eq_true] at hp
                have p1 := z_ile_ok hp.1
                have p2 := z_ile_ok hp.2
                obtain ⟨x1, x2⟩ := hx
                have hv := g7 g hm x.toInt.toNat b3 (by omega) (by omega)
                refine ⟨a, n, f, x, k2, _, rfl, g3, b1, rfl, hread, z_sat_ld hs hk2 hv (fun f hf => absurd hf List.not_mem_nil) (fun f2 hf2 => ?_)⟩
                rw [List.mem_singleton.mp hf2]
                exact ⟨a, x, _, z_app g1, z_app e3, b2, by rw [← hs.1]; simp, hsl⟩
      · cases h
    · cases h
  · cases h
theorem z_r_iald (hg : z_Good p l e R s m args below meth c Q OB D DA cl TY PHI sz raw pu T0 H0 env0 nL good) (hx : p.tables.exec = Jvm.exec) (hb : c.code = cc) (hD : z_Dy s m args Ts own D cl DA tys) (hd : decode cc pc = .ok (.iaload, 1)) (h : z_ald TY 0 st = some st') (k : good (pc + 1) st') : good pc st := by
  refine (hg _ _).mpr fun T H locs env ls stk hs => ?_
  obtain ⟨a, n, f, x, k2, env', rfl, h1, h2, h3, h4, h5⟩ := z_ald_ok (by omega) hD h hs
  refine W.iald hx hb h1 (z_isarr hD (k := 0) (by omega) n f) (fun q => by cases q) (by rw [arrV_size]; exact h2) h4 rfl rfl hd ?_
  have kk := (hg _ _).mp k T H locs env' ls _ h5
  rwa [h3] at kk
theorem z_r_bald (hg : z_Good p l e R s m args below meth c Q OB D DA cl TY PHI sz raw pu T0 H0 env0 nL good) (hx : p.tables.exec = Jvm.exec) (hb : c.code = cc) (hD : z_Dy s m args Ts own D cl DA tys) (hd : decode cc pc = .ok (.baload, 1)) (h : z_ald TY 1 st = some st') (k : good (pc + 1) st') : good pc st := by
  refine (hg _ _).mpr fun T H locs env ls stk hs => ?_
  obtain ⟨a, n, f, x, k2, env', rfl, h1, h2, h3, h4, h5⟩ := z_ald_ok (by omega) hD h hs
  refine W.bald hx hb h1 (z_isarr hD (k := 1) (by omega) n f) (fun q => by cases q) (by rw [arrV_size]; exact h2) h4 rfl rfl hd ?_
  have kk := (hg _ _).mp k T H locs env' ls _ h5
  rwa [h3] at kk
theorem z_r_lald (hg : z_Good p l e R s m args below meth c Q OB D DA cl TY PHI sz raw pu T0 H0 env0 nL good) (hx : p.tables.exec = Jvm.exec) (hb : c.code = cc) (hD : z_Dy s m args Ts own D cl DA tys) (hd : decode cc pc = .ok (.laload, 1)) (h : z_ald TY 2 st = some st') (k : good (pc + 1) st') : good pc st := by
  refine (hg _ _).mpr fun T H locs env ls stk hs => ?_
  obtain ⟨a, n, f, x, k2, env', rfl, h1, h2, h3, h4, h5⟩ := z_ald_ok (by omega) hD h hs
  refine W.lald hx hb h1 (z_isarr hD (k := 2) (by omega) n f) (fun q => by cases q) (by rw [arrV_size]; exact h2) h4 rfl rfl hd ?_
  have kk := (hg _ _).mp k T H locs env' ls _ h5
  rwa [h3] at kk
/-- an entry is set -/
theorem z_ast_ok (hpu : pu = false) {ek : Nat} (hek : ek < 3) (h : z_ast TY RO ek st = some st') (hs : z_sat OB D DA cl TY PHI sz raw pu T0 H0 env0 nL st T H locs env ls stk) :
    ∃ (a n : Nat) (f : Nat → Value) (x : Int32) (k : List Value) (v : Value), stk = v :: .int x :: .ref a :: k ∧ (ek < 2 → ∃ y : Int32, v = .int y) ∧ (ek = 2 → ∃ y : Int64, v = .long y) ∧ H[a]? = some (arrV (DA ek) n f) ∧ ¬ (x < 0 ∨ n ≤ x.toNatClampNeg) ∧ z_C st' = z_C st ∧
      ∀ H1 : Heap, H1[a]? = some ((arrV (DA ek) n f).setSlot x.toNatClampNeg (narrow (z_ek ek) v)) → H1.size = H.size → (∀ b : Nat, b ≠ a → H1[b]? = H[b]?) → z_sat OB D DA cl TY PHI sz raw pu T0 H0 env0 nL st' T H1 (locs ++ [⟨a, x.toNatClampNeg⟩]) env ls k := by
  unfold z_ast at h
  split at h
  · rename_i v j d S hS
    split at h
    · rename_i r t cv hj ht hcv
      split at h
      · rename_i q hq
        obtain ⟨hc, rfl⟩ := z_cond h
        simp only [Bool.and_eq_true] at hc
        obtain ⟨⟨⟨⟨hc1, hc2⟩, hc3⟩, hc4⟩, hc5⟩ := hc
        obtain ⟨ek2, ⟨lo, hi⟩, sg⟩ := q
        have he : ek2 = ek := z_beq hc1
        subst he
        obtain ⟨vv, k0, rfl, e0, hk0⟩ := z_stk_cons hS hs.2.2.2.1
        obtain ⟨vj, k1, rfl, e1, hk1⟩ := hk0
        obtain ⟨vd, k2, rfl, e2, hk2⟩ := hk1
        obtain ⟨a, n, f, g1, g2, g3, g4, g5, g6, g7⟩ := z_arr hs ht hq
        obtain ⟨w, e3, x, rfl, hx⟩ := z_get_ok hs.2.2.2.2.1 hj
        have q1 : vj = .int x := Option.some.inj (e1.symm.trans e3)
        have q2 : vd = .ref a := Option.some.inj (e2.symm.trans g1)
        subst q1; subst q2
        obtain ⟨b1, b2, b3⟩ := z_vpin hx hc2 hc3 g4
        cases hgv : z_get (z_V st) v with
        | none => rw [hgv] at hcv; cases hcv
        | some c0 =>
          rw [hgv] at hcv
          have hcv : z_kep ek2 c0 = some cv := hcv
          obtain ⟨w2, e4, hw2⟩ := z_get_ok hs.2.2.2.2.1 hgv
          have q3 : vv = w2 := Option.some.inj (e0.symm.trans e4)
          subst q3
          have hval : (ek2 < 2 → ∃ y : Int32, vv = .int y) ∧ (ek2 = 2 → ∃ y : Int64, vv = .long y) ∧ z_v OB T cv (narrow (z_ek ek2) vv) ∧ (ek2 ≠ 1 → narrow (z_ek ek2) vv = vv) := by
            match ek2, c0, hcv, hw2 with
            | 0, .inl r0, hcv, hw2 =>
              cases hcv
              obtain ⟨y, rfl, hy⟩ := hw2
              exact ⟨fun _ => ⟨y, rfl⟩, fun h => (by cases h), ⟨y, rfl, hy⟩, fun _ => rfl⟩
            | 1, .inl r0, hcv, hw2 =>
              cases hcv
              obtain ⟨y, rfl, hy⟩ := hw2
              exact ⟨fun _ => ⟨y, rfl⟩, fun h => (by cases h), ⟨_, rfl, z_i2b_ok hy⟩, fun h => absurd rfl h⟩
            | 2, .inr (.inr 0), hcv, hw2 =>
              cases hcv
              obtain ⟨y, rfl⟩ := hw2
              exact ⟨fun h => absurd h (by omega), fun _ => ⟨y, rfl⟩, ⟨y, rfl⟩, fun _ => rfl⟩
          obtain ⟨v1, v2, v3, v4⟩ := hval
          refine ⟨a, n, f, x, k2, vv, rfl, v1, v2, g3, b1, rfl, fun H1 h1 h2 h3 => ?_⟩
          have h1' : H1[a]? = some (arrV (DA ek2) n (updV f x.toNatClampNeg (narrow (z_ek ek2) vv))) := by rw [h1, arrV_store]
          have hcell : z_cell OB D DA cl T H1 a (.inr (ek2, (lo, hi), sg)) := by
            refine ⟨n, _, h1', g4, g5, g6, fun g hg i hi1 hi2 hi3 => ?_⟩
            by_cases hie : i = x.toNatClampNeg
            · have : updV f x.toNatClampNeg (narrow (z_ek ek2) vv) i = narrow (z_ek ek2) vv := by simp [updV, hie]
              rw [this]
              have hall := List.all_eq_true.mp hc5 g hg
              simp only [Bool.or_eq_true] at hall
              rw [z_clamp] at hie
              obtain ⟨x1, x2⟩ := hx
              rcases hall with (h5 | h5) | h5
              · have := z_ile_ok h5; omega
              · have := z_ile_ok h5; omega
              · exact z_le_ok h5 v3
            · have : updV f x.toNatClampNeg (narrow (z_ek ek2) vv) i = f i := by simp [updV, hie]
              rw [this]
              exact g7 g hg i hi1 hi2 hi3
          refine ⟨hs.1, hs.2.1, hs.2.2.1, hk2, hs.2.2.2.2.1, fun f1 hf => ?_, fun f1 hf => ?_, hs.2.2.2.2.2.2.2.1, z_fx_upd h3 (fun cC N iS V2 h5 => z_ob_set h5 g3 h1) hs.2.2.2.2.2.2.2.2.1, z_mem_set hpu hs.2.2.2.2.2.2.2.2.2 g2 hq hcell h2 h3 (fun _ _ _ _ _ hh => by cases hh) (zJ_set hs.2.2.2.2.2.2.2.2.2.1.2 hs.2.2.2.2.2.2.2.2.2.1.1 g2 (by simpa using hc4.2) h3 (fun ci fl hh => by rw [hq] at hh; cases hh))⟩
          · obtain ⟨hf1, hf2⟩ := List.mem_filter.mp hf
            obtain ⟨b, u, r2, y1, y2, y3, y4, y5⟩ := hs.2.2.2.2.2.1 f1 hf1
            exact ⟨b, u, r2, y1, y2, y3, y4, z_sl_kept y5 (h3 b (z_apt_ok hf2 hs y1 g1))⟩
          · rcases List.mem_append.mp hf with hf | hf
            · cases hb1 : Nat.beq ek2 1 with
              | true => rw [hb1] at hf; exact absurd hf List.not_mem_nil
              | false =>
                rw [hb1] at hf
                rw [List.mem_singleton.mp hf]
                have hne : ek2 ≠ 1 := fun h => by rw [h] at hb1; cases hb1
                refine ⟨a, x, vv, g1, e3, b2, e4, _, h1', rfl, ?_⟩
                rw [arrV_read _ _ b3, v4 hne]
                show some (if x.toInt.toNat = x.toNatClampNeg then vv else _) = _
                rw [if_pos (z_clamp x).symm]
            · obtain ⟨hf1, hf2⟩ := List.mem_filter.mp hf
              obtain ⟨b, x2, u, y1, y2, y3, y4, y5⟩ := hs.2.2.2.2.2.2.1 f1 hf1
              refine ⟨b, x2, u, y1, y2, y3, y4, ?_⟩
              rw [Bool.or_eq_true] at hf2
              rcases hf2 with h5 | h5
              · exact z_sl_kept y5 (h3 b (z_apt_ok h5 hs y1 g1))
              · by_cases hba : b = a
                · subst hba
                  have hxx := z_dis_ok h5 hs y2 e3
                  obtain ⟨cell, z1, z2, z3⟩ := y5
                  rw [g3] at z1
                  cases z1
                  refine ⟨_, h1, rfl, ?_⟩
                  rw [slot_ne _ _ (fun h6 => hxx (by rw [z_clamp] at h6; omega))]
                  exact z3
                · exact z_sl_kept y5 (h3 b hba)
      · cases h
    · cases h
  · cases h
theorem z_r_iast (hpu : pu = false) (hg : z_Good p l e R s m args below meth c Q OB D DA cl TY PHI sz raw pu T0 H0 env0 nL good) (hx : p.tables.exec = Jvm.exec) (hb : c.code = cc) (hD : z_Dy s m args Ts own D cl DA tys) (hd : decode cc pc = .ok (.iastore, 1)) (h : z_ast TY RO 0 st = some st') (k : good (pc + 1) st') : good pc st := by
  refine (hg _ _).mpr fun T H locs env ls stk hs => ?_
  obtain ⟨a, n, f, x, k2, v, rfl, h0, -, h1, h2, h3, h4⟩ := z_ast_ok hpu (by omega) h hs
  obtain ⟨y, rfl⟩ := h0 (by omega)
  refine W.iast hx hb h1 (z_isarr hD (k := 0) (by omega) n f) (fun q => by cases q) (by rw [arrV_size]; exact h2) rfl rfl hd fun H1 e1 e2 e3 => ?_
  have kk := (hg _ _).mp k T H1 _ env ls _ (h4 H1 e1 e2 e3)
  rwa [h3] at kk
theorem z_r_bast (hpu : pu = false) (hg : z_Good p l e R s m args below meth c Q OB D DA cl TY PHI sz raw pu T0 H0 env0 nL good) (hx : p.tables.exec = Jvm.exec) (hb : c.code = cc) (hD : z_Dy s m args Ts own D cl DA tys) (hd : decode cc pc = .ok (.bastore, 1)) (h : z_ast TY RO 1 st = some st') (k : good (pc + 1) st') : good pc st := by
  refine (hg _ _).mpr fun T H locs env ls stk hs => ?_
  obtain ⟨a, n, f, x, k2, v, rfl, h0, -, h1, h2, h3, h4⟩ := z_ast_ok hpu (by omega) h hs
  obtain ⟨y, rfl⟩ := h0 (by omega)
  refine W.bast hx hb h1 (z_isarr hD (k := 1) (by omega) n f) (fun q => by cases q) (by rw [arrV_size]; exact h2) rfl rfl hd fun H1 e1 e2 e3 => ?_
  have kk := (hg _ _).mp k T H1 _ env ls _ (h4 H1 e1 e2 e3)
  rwa [h3] at kk
theorem z_r_last (hpu : pu = false) (hg : z_Good p l e R s m args below meth c Q OB D DA cl TY PHI sz raw pu T0 H0 env0 nL good) (hx : p.tables.exec = Jvm.exec) (hb : c.code = cc) (hD : z_Dy s m args Ts own D cl DA tys) (hd : decode cc pc = .ok (.lastore, 1)) (h : z_ast TY RO 2 st = some st') (k : good (pc + 1) st') : good pc st := by
  refine (hg _ _).mpr fun T H locs env ls stk hs => ?_
  obtain ⟨a, n, f, x, k2, v, rfl, -, h0, h1, h2, h3, h4⟩ := z_ast_ok hpu (by omega) h hs
  obtain ⟨y, rfl⟩ := h0 rfl
  refine W.last hx hb h1 (z_isarr hD (k := 2) (by omega) n f) (fun q => by cases q) (by rw [arrV_size]; exact h2) rfl rfl hd fun H1 e1 e2 e3 => ?_
  have kk := (hg _ _).mp k T H1 _ env ls _ (h4 H1 e1 e2 e3)
  rwa [h3] at kk
theorem z_r_alen (hg : z_Good p l e R s m args below meth c Q OB D DA cl TY PHI sz raw pu T0 H0 env0 nL good) (hx : p.tables.exec = Jvm.exec) (hb : c.code = cc) (hD : z_Dy s m args Ts own D cl DA tys) (hd : decode cc pc = .ok (.arraylength, 1)) (h : z_alen TY st = some st') (k : good (pc + 1) st') : good pc st := by
  refine (hg _ _).mpr fun T H locs env ls stk hs => ?_
  unfold z_alen at h
  split at h
  · rename_i d S hS
    split at h
    · rename_i t ht
      split at h
      · rename_i q hq
        obtain ⟨hc, rfl⟩ := z_cond h
        obtain ⟨ek, ⟨lo, hi⟩, sg⟩ := q
        have hek : ek ≤ 2 := Nat.le_of_ble_eq_true hc
        obtain ⟨vd, k2, rfl, e2, hk2⟩ := z_stk_cons hS hs.2.2.2.1
        obtain ⟨a, n, f, g1, g2, g3, g4, g5, g6, g7⟩ := z_arr hs ht hq
        have q2 : vd = .ref a := Option.some.inj (e2.symm.trans g1)
        subst q2
        have hn : (Int32.ofNat n).toInt = (n : Int) := Int32.toInt_ofNat_of_lt (by omega)
        refine W.alen (n := Int32.ofNat n) hx hb g3 (z_isarr hD (k := ek) (by omega) n f) (by rw [arrV_size]) rfl rfl hd ?_
        exact (hg _ _).mp k T H locs _ ls _ (z_sat_psh hs hk2 (z_vi ⟨by rw [hn]; show (lo : Int) ≤ _; omega, by rw [hn]; show _ ≤ (hi : Int); omega⟩) (fun q hq => absurd hq List.not_mem_nil))
      · cases h
    · cases h
  · cases h
end ZARRAYS
end
section
/-! New cells; a new object becomes one of a type; types made wider. -/
def z_at (t : ArrayType) : Option Nat := match t with
  | .int => some 0
  | .byte => some 1
  | .long => some 2
  | _ => none
def z_dfl (ek : Nat) : zV := match ek with
  | 0 => .inl (0, 0)
  | 1 => .inl (0, 0)
  | _ => .inr (.inr 0)
def z_nwa (TY : List zTy) (mc ms : Nat) (tau : Nat) (ek : Nat) (st : zS) : Option zS := match z_S st with
  | x :: S => (match z_get (z_V st) x with
    | some (.inl r) => (match TY[tau]? with
      | some (.inr q) => cond (z_ile 0 r.1 && z_ile r.2 r.1 && Nat.ble r.1.toNat 1000000 && Nat.beq q.1 ek && Nat.ble q.2.1.1 r.1.toNat && Nat.ble r.1.toNat q.2.1.2 && q.2.2.all (fun g => z_le (z_dfl ek) g.2) && Nat.ble ((z_C st).1 + 1) mc && Nat.ble ((z_C st).2 + r.1.toNat) ms)
          (some (z_L st, z_n st :: S, z_n st + 1, (z_n st, .inr (.inl tau)) :: z_V st, z_F st, z_E st, z_R st, z_X st, ((z_C st).1 + 1, (z_C st).2 + r.1.toNat), z_ph st)) none
      | _ => none)
    | _ => none)
  | _ => none
def z_zf (ty : FieldType) : Bool := match ty with
  | .int => true
  | .boolean => true
  | _ => false
def z_new (CL : List (Nat × Nat)) (cl : List vw_C) (FT : Nat → Nat → FieldType) (mc ms : Nat) (st : zS) (i : Nat) : Option zS := match CL.find? (fun q => Nat.beq q.1 i) with
  | some q => (match cl[q.2]? with
    | some r => cond (Nat.ble ((z_C st).1 + 1) mc && Nat.ble ((z_C st).2 + r.2.2) ms)
        (some (z_L st, z_n st :: z_S st, z_n st + 2, (z_n st + 1, .inl (0, 0)) :: z_V st, ((List.range r.2.2).filter (fun k => z_zf (FT q.2 k))).map (fun k => (z_n st, q.2, k, z_n st + 1)) ++ z_F st, z_E st, z_R st, (z_n st, q.2) :: z_X st, ((z_C st).1 + 1, (z_C st).2 + r.2.2), z_ph st)) none
    | none => none)
  | none => none
def z_pub (TY : List zTy) (st : zS) (d tau : Nat) : Option zS := match (z_X st).find? (fun q => Nat.beq q.1 d), TY[tau]? with
  | some q, some (.inl o) => cond (Nat.beq o.1 q.2 && (!(Nat.beq o.1 12) && !(Nat.beq o.1 4)) && (List.range o.2.length).all (fun k => match o.2[k]?, z_ffind st d q.2 k with
      | some c, some w => (match z_get (z_V st) w with
        | some cw => z_le cw c
        | none => false)
      | _, _ => false)) (some (z_L st, z_S st, z_n st, (d, .inr (.inl tau)) :: z_V st, z_F st, z_E st, z_R st, (z_X st).filter (fun p => !(Nat.beq p.1 d)), z_C st, z_ph st)) none
  | _, _ => none
section ZMAKES
variable {p : Program} {l : Launch} {e : Env} {R : Room} {s : State} {m : MethodId} {args : Array Value} {below : List Frame} {meth : Method} {c : Code} {Q : State → Prop} {cc : ByteArray} {pc : Nat}
variable {OB : Nat → Nat} {D : va_G} {DA : Nat → ClassId} {cl : List vw_C} {TY : List zTy} {PHI : List (List Nat)} {sz : Nat} {raw : Option Nat} {pu : Bool} {T0 : zTp} {H0 : Heap} {env0 : List Value} {nL : Nat} {st st' : zS} {good : Nat → zS → Prop}
variable {Ts : List Cond} {own : String} {FT : Nat → Nat → FieldType} {FL : List (Nat × Nat × Nat)} {CL : List (Nat × Nat)} {tys : List (ClassId × FieldType)}
variable {T : zTp} {H : Heap} {locs : List Loc} {env : List Value} {ls : Array Slot} {stk : List Value} {cells slots : Nat} {rest : List Value}
theorem z_v_mono {T T' : zTp} (h : ∀ b t, T b = some t → T' b = some t) {c : zV} {v : Value} (hv : z_v OB T c v) : z_v OB T' c v := by
  match c, hv with
  | .inl r, hv => exact hv
  | .inr (.inl t), ⟨a, e, ha⟩ => exact ⟨a, e, h a t ha⟩
  | .inr (.inr 0), hv => exact hv
  | .inr (.inr (k + 1)), hv => exact hv
theorem z_cell_mono {T T' : zTp} (h : ∀ b t, T b = some t → T' b = some t) {a : Nat} {ty : zTy} (hc : z_cell OB D DA cl T H a ty) : z_cell OB D DA cl T' H a ty := by
  cases ty with
  | inl o =>
    obtain ⟨r, h1, h2, V, h3, h4⟩ := hc
    exact ⟨r, h1, h2, V, h3, fun k c hk => z_v_mono h (h4 k c hk)⟩
  | inr q =>
    obtain ⟨n, f, h1, h2, h3, h4, h5⟩ := hc
    exact ⟨n, f, h1, h2, h3, h4, fun g hg j h6 h7 h8 => z_v_mono h (h5 g hg j h6 h7 h8)⟩
theorem z_T1_sub {T : zTp} {a tau : Nat} (ha : T a = none) : ∀ b t, T b = some t → z_T1 T a tau b = some t := by
  intro b t hb
  unfold z_T1
  rw [if_neg (fun h => by subst h; rw [ha] at hb; cases hb)]
  exact hb
theorem z_cell_lt {a : Nat} {ty : zTy} (h : z_cell OB D DA cl T H a ty) : a < H.size := by
  cases ty with
  | inl o =>
    obtain ⟨r, h1, h2, V, ⟨cell, h3, -⟩, h4⟩ := h
    exact (Array.getElem?_eq_some_iff.mp h3).1
  | inr q =>
    obtain ⟨n, f, h1, -⟩ := h
    exact (Array.getElem?_eq_some_iff.mp h1).1
theorem z_mem_lt {ph : Nat} (h : z_mem OB D DA cl TY PHI sz raw pu T0 H0 T H locs ph) {a t : Nat} (ha : T a = some t) : a < H.size := by
  obtain ⟨ty, h1, h2⟩ := h.1.1 a t ha
  exact z_cell_lt h2
/-- a cell gets a type -/
theorem z_mem_grow (hpu : pu = false) {ph tau : Nat} {H1 : Heap} {a : Nat} {ty : zTy} (h : z_mem OB D DA cl TY PHI sz raw pu T0 H0 T H locs ph) (ha : T a = none) (hty : TY[tau]? = some ty) (hc : z_cell OB D DA cl (z_T1 T a tau) H1 a ty) (hz : H.size ≤ H1.size) (oq : ∀ b : Nat, b < H.size → b ≠ a → H1[b]? = H[b]?) (hsz : sz ≤ a) (hr : H0.size ≤ a ∨ raw = some a) (h0 : ∀ b : Nat, b < H0.size → H1[b]? = H[b]?) (hn : ∀ ci fl, TY[tau]? = some (.inl (ci, fl)) → ci ≠ 12 ∧ ci ≠ 4) :
    z_mem OB D DA cl TY PHI sz raw pu T0 H0 (z_T1 T a tau) H1 locs ph := by
  obtain ⟨h1, h2, h3, h4, h5⟩ := h
  refine ⟨⟨fun b u hb => ?_, zJ_grow h1.2 ha (fun b u hb => by obtain ⟨ty2, y1, y2⟩ := h1.1 b u hb; exact z_cell_lt y2) oq hn⟩, ⟨fun b u hb => ?_, (fun h => by rw [hpu] at h; cases h), z_fin_tr h2.2.2 fun b u ci fl hb hty2 => ⟨u, fl, z_T1_sub ha _ _ hb, hty2, fun r k2 w x1 x2 x3 x4 => z_sl_kept0 x4 (oq b (by obtain ⟨ty2, y1, y2⟩ := h1.1 b u hb; exact z_cell_lt y2) (fun e => by subst e; rw [hb] at ha; cases ha))⟩⟩, fun b u hb => z_T1_sub ha _ _ (h3 b u hb), fun q hq1 hq2 hq3 => ?_, Nat.le_trans h5.1 hz, fun q hq1 hq2 => ?_, h5.2.2⟩
  · by_cases e : b = a
    · subst e
      rw [z_T1_at] at hb
      cases hb
      exact ⟨ty, hty, hc⟩
    · rw [z_T1_ne e] at hb
      obtain ⟨ty2, g1, g2⟩ := h1.1 b u hb
      exact ⟨ty2, g1, z_cell_mono (z_T1_sub ha) (z_cell_kept g2 (oq b (z_cell_lt g2) e))⟩
  · by_cases e : b = a
    · rw [e]; exact hsz
    · rw [z_T1_ne e] at hb; exact h2.1 b u hb
  · obtain ⟨g1, g2⟩ := h4 q hq1 hq2 hq3
    have hqa : q ≠ a := by
      intro e
      subst e
      rcases hr with h | h
      · omega
      · exact hq3 h
    exact ⟨by rw [z_T1_ne hqa]; exact g1, by rw [h0 q hq1]; exact g2⟩
  · rw [h0 q hq1]; exact h5.2.1 q hq1 hq2
theorem z_fv_mono {T T' : zTp} (h : ∀ b t, T b = some t → T' b = some t) {V : List (Nat × zV)} (hv : z_fv OB T env V) : z_fv OB T' env V := fun q hq => by
  obtain ⟨v, e1, e2⟩ := hv q hq
  exact ⟨v, e1, z_v_mono h e2⟩
theorem z_fx_grow {n0 tau : Nat} {H1 : Heap} {a : Nat} (oq : ∀ b : Nat, b < H.size → H1[b]? = H[b]?) : ∀ {X : List (Nat × Nat)}, (∀ p ∈ X, env[p.1]? ≠ some (.ref a)) → z_fx D cl T sz n0 raw H env X → z_fx D cl (z_T1 T a tau) sz n0 raw H1 env X
  | [], _, h => h
  | x :: X, ha, ⟨⟨b, h1, h2, h3, ⟨r, V, h4, h4b⟩, h5⟩, hr⟩ => by
    have hb : b ≠ a := fun e => by subst e; exact ha x List.mem_cons_self h1
    have hlt : b < H.size := by
      obtain ⟨cell, x1, -⟩ := h4b
      exact (Array.getElem?_eq_some_iff.mp x1).1
    exact ⟨⟨b, h1, by rw [z_T1_ne hb]; exact h2, h3, ⟨r, V, h4, h4b.kept (oq b hlt)⟩, h5⟩, z_fx_grow oq (fun p hp => ha p (List.mem_cons_of_mem _ hp)) hr⟩
theorem z_fx_push {n0 : Nat} {H1 : Heap} (oq : ∀ b : Nat, b < H.size → H1[b]? = H[b]?) : ∀ {X : List (Nat × Nat)}, z_fx D cl T sz n0 raw H env X → z_fx D cl T sz n0 raw H1 env X
  | [], h => h
  | x :: X, ⟨⟨b, h1, h2, h3, ⟨r, V, h4, h4b⟩, h5⟩, hr⟩ => by
    have hlt : b < H.size := by
      obtain ⟨cell, x1, -⟩ := h4b
      exact (Array.getElem?_eq_some_iff.mp x1).1
    exact ⟨⟨b, h1, h2, h3, ⟨r, V, h4, h4b.kept (oq b hlt)⟩, h5⟩, z_fx_push oq hr⟩
theorem z_ff_push {H1 : Heap} (oq : ∀ b : Nat, b < H.size → H1[b]? = H[b]?) {F : List (Nat × Nat × Nat × Nat)} (h : z_ff D cl H env F) : z_ff D cl H1 env F := fun q hq => by
  obtain ⟨a, w, r, e1, e2, e3, e4, cell, e5, e6⟩ := h q hq
  exact ⟨a, w, r, e1, e2, e3, e4, cell, by rw [oq a (Array.getElem?_eq_some_iff.mp e5).1]; exact e5, e6⟩
theorem z_fe_push {H1 : Heap} (oq : ∀ b : Nat, b < H.size → H1[b]? = H[b]?) {E : List (Nat × Nat × Nat)} (h : z_fe H env E) : z_fe H1 env E := fun q hq => by
  obtain ⟨a, x, w, e1, e2, e3, e4, cell, e5, e6⟩ := h q hq
  exact ⟨a, x, w, e1, e2, e3, e4, cell, by rw [oq a (Array.getElem?_eq_some_iff.mp e5).1]; exact e5, e6⟩
theorem z_r_nwa (hpu : pu = false) (hg : z_Good p l e R s m args below meth c Q OB D DA cl TY PHI sz raw pu T0 H0 env0 nL good) (hx : p.tables.exec = Jvm.exec) (hb : c.code = cc) (hD : z_Dy s m args Ts own D cl DA tys) (hAr : ∀ k, k < 3 → Cond.arrayClass (z_ek k) ∈ Ts) (hsz : sz ≤ H0.size) {aty : ArrayType} {ek tau : Nat} (hat : z_at aty = some ek) (hd : decode cc pc = .ok (.newarray aty, 2)) (h : z_nwa TY R.cells R.slots tau ek st = some st') (k : good (pc + 2) st') : good pc st := by
  refine (hg _ _).mpr fun T H locs env ls stk hs => ?_
  have hek : ek < 3 ∧ newarray.typeOf aty = z_ek ek := by
    cases aty <;> simp only [z_at, Option.some.injEq, reduceCtorEq] at hat <;> subst hat <;> exact ⟨by omega, rfl⟩
  unfold z_nwa at h
  split at h
  · rename_i x S hS
    split at h
    · rename_i r hr
      split at h
      · rename_i q hq
        obtain ⟨hc, rfl⟩ := z_cond h
        simp only [Bool.and_eq_true] at hc
        obtain ⟨⟨⟨⟨⟨⟨⟨⟨c1, c2⟩, c3⟩, c4⟩, c5⟩, c6⟩, c7⟩, c8⟩, c9⟩ := hc
        obtain ⟨ek2, ⟨lo, hi⟩, sg⟩ := q
        have he : ek2 = ek := z_beq c4
        subst he
        obtain ⟨vx, k2, rfl, e2, hk2⟩ := z_stk_cons hS hs.2.2.2.1
        obtain ⟨w, e3, x1, rfl, hx1⟩ := z_get_ok hs.2.2.2.2.1 hr
        have q1 : vx = .int x1 := Option.some.inj (e2.symm.trans e3)
        subst q1
        have l1 := z_ile_ok c1
        have l2 := z_ile_ok c2
        obtain ⟨u1, u2⟩ := hx1
        have hN : x1.toNatClampNeg = r.1.toNat := by rw [z_clamp]; omega
        have l3 : r.1.toNat ≤ 1000000 := Nat.le_of_ble_eq_true c3
        have l5 : lo ≤ r.1.toNat := Nat.le_of_ble_eq_true c5
        have l6 : r.1.toNat ≤ hi := Nat.le_of_ble_eq_true c6
        have hcb : componentBytes (z_ek ek2) ≤ 8 := by
          obtain ⟨h1, -⟩ := hek
          match ek2, h1 with
          | 0, _ => decide
          | 1, _ => decide
          | 2, _ => decide
        refine va_newaK hx hb (by rw [hek.2]; exact hD.1 _ (hAr _ hek.1)) rfl hd rfl (fun hneg => ?_) hN ?_ (Nat.le_of_ble_eq_true c8) (Nat.le_of_ble_eq_true c9) rfl fun H1 cA y1 y2 y3 y4 y5 => ?_
        · have := Int32.lt_iff_toInt_lt.mp hneg
          have z0 : (0 : Int32).toInt = 0 := rfl
          omega
        · rw [hek.2]
          have := Nat.mul_le_mul l3 hcb
          omega
        have hcA : cA = DA ek2 := by
          have h1 := (hD.2.2.1.2 ek2 _ (hD.2.2.2 ek2 hek.1)).2
          rw [hek.2] at y5
          have h2 : va_RA s (DA ek2) (z_ek ek2) := h1
          have h3 : s.vm.findClass ("[" ++ (z_ek ek2).toString) = some (DA ek2) := by
            obtain ⟨h0, -⟩ := hek
            match ek2, h0, h2 with
            | 0, _, h2 => exact h2
            | 1, _, h2 => exact h2
            | 2, _, h2 => exact h2
          rw [y5] at h3
          exact Option.some.inj h3
        subst hcA
        have hmem := hs.2.2.2.2.2.2.2.2.2
        have hTn : T H.size = none := by
          cases hT : T H.size with
          | none => rfl
          | some t => exact absurd (z_mem_lt hmem hT) (Nat.lt_irrefl _)
        have hsz1 : H0.size ≤ H.size := hmem.2.2.2.2.1
        have hcell : z_cell OB D DA cl (z_T1 T H.size tau) H1 H.size (.inr (ek2, (lo, hi), sg)) := by
          refine ⟨_, _, y1, l5, l6, by omega, fun g hg2 j _ _ _ => z_le_ok (List.all_eq_true.mp c7 g hg2) ?_⟩
          rw [hek.2]
          obtain ⟨h0, -⟩ := hek
          match ek2, h0 with
          | 0, _ => exact ⟨0, rfl, Int.le_refl _, Int.le_refl _⟩
          | 1, _ => exact ⟨0, rfl, Int.le_refl _, Int.le_refl _⟩
          | 2, _ => exact ⟨0, rfl⟩
        have hm := z_mem_grow hpu (tau := tau) (H1 := H1) hmem hTn hq hcell (by omega) (fun b hb1 _ => y3 b hb1) (by omega) (Or.inl hsz1) (fun b hb1 => y3 b (by omega)) (fun ci fl hh => by rw [hq] at hh; cases hh)
        have hp := z_sat_psh hs hk2 (c := .inl (0, 0)) (v := .int 0) ⟨0, rfl, Int.le_refl _, Int.le_refl _⟩ (rs := []) (fun q hq => absurd hq List.not_mem_nil)
        have hn : (env ++ [Value.ref H.size])[z_n st]? = some (.ref H.size) := by rw [← hs.1]; simp
        refine (hg _ _).mp k (z_T1 T H.size tau) H1 locs (env ++ [.ref H.size]) ls _ ⟨by show (env ++ [Value.ref H.size]).length = z_n st + 1; rw [List.length_append, hs.1]; rfl, ?_, z_ls_app hs.2.2.1, ⟨_, _, rfl, hn, z_stk_app hk2⟩, fun f hf => ?_, z_ff_push y3 (z_ff_app hs.2.2.2.2.2.1), z_fe_push y3 (z_fe_app hs.2.2.2.2.2.2.1), z_fr_app hs.2.2.2.2.2.2.2.1, ?_, hm⟩
        · obtain ⟨w, hw⟩ := hs.2.1
          exact ⟨w ++ [.ref H.size], by rw [hw, List.append_assoc]⟩
        · rcases List.mem_cons.mp hf with rfl | hf
          · exact ⟨_, hn, H.size, rfl, z_T1_at⟩
          · exact z_fv_mono (z_T1_sub hTn) (z_fv_app hs.2.2.2.2.1) f hf
        · refine z_fx_grow y3 (fun p hp hpe => ?_) (z_fx_app hs.2.2.2.2.2.2.2.2.1)
          obtain ⟨b, b1, b2, b3, r2, V, b4, ⟨cell, b5, -⟩⟩ := z_fx_in (z_fx_app (w := [Value.ref H.size]) hs.2.2.2.2.2.2.2.2.1) p hp
          rw [b1] at hpe
          cases hpe
          exact absurd (Array.getElem?_eq_some_iff.mp b5).1 (Nat.lt_irrefl _)
      · cases h
    · cases h
  · cases h
end ZMAKES
end
section
/-! New objects; types given and made wider; longs. -/
def z_mp (PHI : List (List Nat)) (ph : Nat) (c : zV) : zV := match c with
  | .inr (.inl t) => .inr (.inl (z_phi PHI ph t))
  | c => c
/-- a type is within another one, once its references are taken on -/
def z_tle (PHI : List (List Nat)) (ph : Nat) (a b : zTy) : Bool := match a, b with
  | .inl o, .inl q => Nat.beq o.1 q.1 && Nat.beq o.2.length q.2.length && (List.range q.2.length).all (fun k => match o.2[k]?, q.2[k]? with
    | some x, some y => z_le (z_mp PHI ph x) y
    | _, _ => false)
  | .inr o, .inr q => Nat.beq o.1 q.1 && Nat.ble q.2.1.1 o.2.1.1 && Nat.ble o.2.1.2 q.2.1.2 && q.2.2.all (fun g => o.2.2.any (fun f => Nat.ble f.1.1 g.1.1 && Nat.ble g.1.2 f.1.2 && z_le (z_mp PHI ph f.2) g.2))
  | _, _ => false
def z_phok (TY : List zTy) (PHI : List (List Nat)) (ph : Nat) : Bool := (List.range TY.length).all (fun t => match TY[t]?, TY[z_phi PHI ph t]? with
  | some a, some b => z_tle PHI ph a b
  | _, _ => false)
def z_rty (PHI : List (List Nat)) (st : zS) (ph : Nat) : Option zS := cond (Nat.beq (z_ph st) 0) (some (z_L st, z_S st, z_n st, (z_V st).map (fun q => (q.1, z_mp PHI ph q.2)), z_F st, z_E st, z_R st, z_X st, z_C st, ph)) none
def z_lc0 (st : zS) : Option zS := some (z_psh st (z_S st) (.inr (.inr 0)) [])
def z_lsh (st : zS) : Option zS := match z_S st with
  | y :: x :: S => (match z_get (z_V st) x, z_get (z_V st) y with
    | some (.inr (.inr 0)), some (.inl _) => some (z_psh st S (.inr (.inr 0)) [])
    | _, _ => none)
  | _ => none
def z_l2 (c : zV) (st : zS) : Option zS := match z_S st with
  | y :: x :: S => (match z_get (z_V st) x, z_get (z_V st) y with
    | some (.inr (.inr 0)), some (.inr (.inr 0)) => some (z_psh st S c [])
    | _, _ => none)
  | _ => none
section ZMAKES2
variable {p : Program} {l : Launch} {e : Env} {R : Room} {s : State} {m : MethodId} {args : Array Value} {below : List Frame} {meth : Method} {c : Code} {Q : State → Prop} {cc : ByteArray} {pc : Nat}
variable {OB : Nat → Nat} {D : va_G} {DA : Nat → ClassId} {cl : List vw_C} {TY : List zTy} {PHI : List (List Nat)} {sz : Nat} {raw : Option Nat} {pu : Bool} {T0 : zTp} {H0 : Heap} {env0 : List Value} {nL : Nat} {st st' : zS} {good : Nat → zS → Prop}
variable {Ts : List Cond} {own : String} {FT : Nat → Nat → FieldType} {FL : List (Nat × Nat × Nat)} {CL : List (Nat × Nat)} {tys : List (ClassId × FieldType)}
variable {T : zTp} {H : Heap} {locs : List Loc} {env : List Value} {ls : Array Slot} {stk : List Value} {cells slots : Nat} {rest : List Value}
theorem z_r_new (hpu : pu = false) (hg : z_Good p l e R s m args below meth c Q OB D DA cl TY PHI sz raw pu T0 H0 env0 nL good) (hx : p.tables.exec = Jvm.exec) (hb : c.code = cc) (hSt : z_St Ts cl FT own FL) (hD : z_Dy s m args Ts own D cl DA tys) (hCL : ∀ q ∈ CL, ∃ r, cl[q.2]? = some r ∧ Cond.classLink own q.1 r.1 ∈ Ts ∧ Cond.instantiable r.1 r.2.2 ∈ Ts ∧ Cond.initialized r.1 ∈ Ts) (hsz : sz ≤ H0.size) {i : Nat} (hd : decode cc pc = .ok (.new i, 3)) (h : z_new CL cl FT R.cells R.slots st i = some st') (k : good (pc + 3) st') : good pc st := by
  refine (hg _ _).mpr fun T H locs env ls stk hs => ?_
  unfold z_new at h
  split at h
  · rename_i q hq
    have hm := List.mem_of_find?_eq_some hq
    have hi0 := List.find?_some hq
    have hi : q.1 = i := z_beq hi0
    split at h
    · rename_i r hr
      obtain ⟨hc, rfl⟩ := z_cond h
      rw [Bool.and_eq_true] at hc
      obtain ⟨r2, w1, w2, w3, w4⟩ := hCL q hm
      rw [hr] at w1
      cases w1
      obtain ⟨hts, hown, hK, -⟩ := id hD
      have hKn := hK.1 _ _ hr
      have hmem := hs.2.2.2.2.2.2.2.2.2
      have hTn : T H.size = none := by
        cases hT : T H.size with
        | none => rfl
        | some t => exact absurd (z_mem_lt hmem hT) (Nat.lt_irrefl _)
      have hsz1 : H0.size ≤ H.size := hmem.2.2.2.2.1
      refine W.newcK hx hb hown (hts _ w2) (hts _ w3) (hts _ w4) rfl (by rw [← hi] at hd; exact hd) (Nat.le_of_ble_eq_true hc.1) (Nat.le_of_ble_eq_true hc.2) hKn.2.1 rfl fun H1 kC y1 y2 y3 y4 => ?_
      have hob : t_OB H.size (D.1 q.2) r.2.2 (D.2 q.2) H1 (fun k => defaultValue (FT q.2 k)) := u_born (FT q.2) hts (hSt.1 _ _ hr).1 hKn y1 y2 (hSt.1 _ _ hr).2.1
      have n0 : (env ++ [Value.ref H.size, Value.int 0])[z_n st]? = some (.ref H.size) := by rw [← hs.1]; simp
      have n1 : (env ++ [Value.ref H.size, Value.int 0])[z_n st + 1]? = some (.int 0) := by rw [← hs.1]; simp
      refine (hg _ _).mp k T H1 locs (env ++ [.ref H.size, .int 0]) ls _ ⟨by show (env ++ [Value.ref H.size, Value.int 0]).length = z_n st + 2; rw [List.length_append, hs.1]; rfl, ?_, z_ls_app hs.2.2.1, ⟨_, _, rfl, n0, z_stk_app hs.2.2.2.1⟩, fun f hf => ?_, fun f hf => ?_, z_fe_push y4 (z_fe_app hs.2.2.2.2.2.2.1), z_fr_app hs.2.2.2.2.2.2.2.1, ⟨⟨H.size, n0, hTn, ⟨by omega, Or.inl hsz1⟩, ⟨r, _, hr, hob⟩, fun p hp hpe => ?_⟩, z_fx_push y4 (z_fx_app hs.2.2.2.2.2.2.2.2.1)⟩, ?_⟩
      · obtain ⟨w, hw⟩ := hs.2.1
        exact ⟨w ++ [.ref H.size, .int 0], by rw [hw, List.append_assoc]⟩
      · rcases List.mem_cons.mp hf with rfl | hf
        · exact ⟨_, n1, 0, rfl, Int.le_refl _, Int.le_refl _⟩
        · exact z_fv_app hs.2.2.2.2.1 f hf
      · rcases List.mem_append.mp hf with hf | hf
        · obtain ⟨k1, hk1, rfl⟩ := List.mem_map.mp hf
          obtain ⟨hk2, hk3⟩ := List.mem_filter.mp hk1
          have hlt := List.mem_range.mp hk2
          refine ⟨H.size, .int 0, r, n0, n1, hr, hlt, ?_⟩
          obtain ⟨cell, x1, x2, x3, x4⟩ := hob
          refine ⟨cell, x1, x3, ?_⟩
          show cell.slots[D.2 q.2 k1]? = some (.int 0)
          rw [x4 _ hlt]
          show some (defaultValue (FT q.2 k1)) = some (.int 0)
          cases hft : FT q.2 k1 <;> rw [hft] at hk3 <;> simp only [z_zf, Bool.false_eq_true] at hk3 <;> rfl
        · exact z_ff_push y4 (z_ff_app hs.2.2.2.2.2.1) f hf
      · obtain ⟨b, b1, b2, b3, r2, V, b4, ⟨cell, b5, -⟩⟩ := z_fx_in (z_fx_app (w := [Value.ref H.size, Value.int 0]) hs.2.2.2.2.2.2.2.2.1) p hp
        rw [b1] at hpe
        cases hpe
        exact absurd (Array.getElem?_eq_some_iff.mp b5).1 (Nat.lt_irrefl _)
      · obtain ⟨h1, h2, h3, h4, h5⟩ := hmem
        refine ⟨⟨fun b u hb => ?_, zJ_ext h1.2 (fun b u hb => by obtain ⟨ty2, u1, u2⟩ := h1.1 b u hb; exact z_cell_lt u2) (fun b hb => y4 b hb)⟩, ⟨h2.1, (fun h => by rw [hpu] at h; cases h), z_fin_tr h2.2.2 fun b u ci fl hb hty2 => ⟨u, fl, hb, hty2, fun r k2 w x1 x2 x3 x4 => z_sl_kept0 x4 (y4 b (by obtain ⟨ty2, u1, u2⟩ := h1.1 b u hb; exact z_cell_lt u2))⟩⟩, h3, fun q hq1 hq2 hq3 => ?_, Nat.le_trans h5.1 (by omega), fun q hq1 hq2 => ?_, h5.2.2⟩
        · obtain ⟨ty2, g1, g2⟩ := h1.1 b u hb
          exact ⟨ty2, g1, z_cell_kept g2 (y4 b (z_cell_lt g2))⟩
        · obtain ⟨g1, g2⟩ := h4 q hq1 hq2 hq3
          exact ⟨g1, by rw [y4 q (by omega)]; exact g2⟩
        · rw [y4 q (by omega)]; exact h5.2.1 q hq1 hq2
    · cases h
  · cases h
theorem z_fx_rem {n0 : Nat} {d : Nat} {a tau : Nat} (hd : env[d]? = some (.ref a)) : ∀ {X : List (Nat × Nat)}, z_fx D cl T sz n0 raw H env X → (∀ p ∈ X, p.1 ≠ d → env[p.1]? ≠ some (.ref a)) → z_fx D cl (z_T1 T a tau) sz n0 raw H env (X.filter (fun p => !(Nat.beq p.1 d)))
  | [], h, _ => h
  | x :: X, ⟨⟨b, h1, h2, h3, h4, h5⟩, hr⟩, hn => by
    have ih := z_fx_rem (tau := tau) hd hr (fun p hp => hn p (List.mem_cons_of_mem _ hp))
    unfold List.filter
    cases hx : Nat.beq x.1 d with
    | true => exact ih
    | false =>
      have hne : x.1 ≠ d := fun h => by rw [h] at hx; simp at hx
      have hba : b ≠ a := fun h => by subst h; exact hn x List.mem_cons_self hne h1
      exact ⟨⟨b, h1, by rw [z_T1_ne hba]; exact h2, h3, h4, fun p hp => h5 p (List.mem_filter.mp hp).1⟩, ih⟩
theorem z_pub_ok (hpu : pu = false) (hg : z_Good p l e R s m args below meth c Q OB D DA cl TY PHI sz raw pu T0 H0 env0 nL good) {d tau : Nat} (hTY : ∀ ci fl, TY[tau]? = some (.inl (ci, fl)) → ∀ r, cl[ci]? = some r → fl.length = r.2.2) (h : z_pub TY st d tau = some st') (k : good pc st') : good pc st := by
  refine (hg _ _).mpr fun T H locs env ls stk hs => ?_
  unfold z_pub at h
  split at h
  · rename_i q o hq ho
    obtain ⟨hc, rfl⟩ := z_cond h
    rw [Bool.and_eq_true, Bool.and_eq_true] at hc
    have hm := List.mem_of_find?_eq_some hq
    have hi0 := List.find?_some hq
    have hi : q.1 = d := z_beq hi0
    obtain ⟨ci, fl⟩ := o
    have hci : ci = q.2 := z_beq hc.1.1
    subst hci
    have hnew : q.2 ≠ 12 ∧ q.2 ≠ 4 := by
      have h5 : (!(Nat.beq q.2 12) && !(Nat.beq q.2 4)) = true := hc.1.2
      rw [Bool.and_eq_true] at h5
      refine ⟨fun e => ?_, fun e => ?_⟩
      · have h6 := h5.1
        rw [e] at h6
        exact absurd h6 (by decide)
      · have h6 := h5.2
        rw [e] at h6
        exact absurd h6 (by decide)
    obtain ⟨a, g1, g2, g3, r, V, g4, g5⟩ := z_fx_in hs.2.2.2.2.2.2.2.2.1 q hm
    rw [hi] at g1
    have hfl := hTY _ _ ho r g4
    have hmem := hs.2.2.2.2.2.2.2.2.2
    have hcell : z_cell OB D DA cl (z_T1 T a tau) H a (.inl (q.2, fl)) := by
      refine ⟨r, g4, hfl, V, g5, fun j c1 hj => ?_⟩
      have hlt : j < fl.length := (List.getElem?_eq_some_iff.mp hj).1
      have h1 := List.all_eq_true.mp hc.2 j (List.mem_range.mpr hlt)
      split at h1
      · rename_i c2 w hc2 hw
        have hj2 : fl[j]? = some c2 := hc2
        rw [hj] at hj2
        cases hj2
        obtain ⟨a2, v2, y1, y2, cell, y3, y4, y5⟩ := z_ffind_ok hw hs
        rw [g1] at y1
        cases y1
        split at h1
        · rename_i cw hcw
          obtain ⟨v3, y6, y7⟩ := z_get_ok hs.2.2.2.2.1 hcw
          rw [y2] at y6
          cases y6
          obtain ⟨cell2, x1, x2, x3, x4⟩ := g5
          rw [y3] at x1
          cases x1
          have := x4 j (by omega)
          rw [y5] at this
          cases this
          exact z_v_mono (z_T1_sub g2) (z_le_ok h1 y7)
        · cases h1
      · cases h1
    have hbase : ∀ b t, z_T1 T a tau b = some t → ∃ ty, TY[t]? = some ty ∧ z_cell OB D DA cl (z_T1 T a tau) H b ty := by
      intro b t hb2
      by_cases eb : b = a
      · subst eb
        rw [z_T1_at] at hb2
        cases hb2
        exact ⟨_, ho, hcell⟩
      · rw [z_T1_ne eb] at hb2
        obtain ⟨ty2, y1, y2⟩ := hmem.1.1 b t hb2
        exact ⟨ty2, y1, z_cell_mono (z_T1_sub g2) y2⟩
    have hms := z_mem_grow hpu (tau := tau) (H1 := H) hmem g2 ho hcell (Nat.le_refl _) (fun b _ _ => rfl) g3.1 g3.2 (fun b _ => rfl) (fun ci fl hh => by rw [ho] at hh; cases hh; exact hnew)
    refine (hg _ _).mp k (z_T1 T a tau) H locs env ls stk ⟨hs.1, hs.2.1, hs.2.2.1, hs.2.2.2.1, fun f hf => ?_, hs.2.2.2.2.2.1, hs.2.2.2.2.2.2.1, hs.2.2.2.2.2.2.2.1, z_fx_rem g1 hs.2.2.2.2.2.2.2.2.1 (fun p hp hne => ?_), hms⟩
    · rcases List.mem_cons.mp hf with rfl | hf
      · exact ⟨_, g1, a, rfl, z_T1_at⟩
      · exact z_fv_mono (z_T1_sub g2) hs.2.2.2.2.1 f hf
    · exact z_fx_apart hs.2.2.2.2.2.2.2.2.1 hm hp (by rw [hi]; exact fun h => hne h.symm) (by rw [hi]; exact g1)
  · cases h
theorem z_mp_ok {ph : Nat} {T' : zTp} (h : ∀ b, T' b = (T b).map (z_phi PHI ph)) {c : zV} {v : Value} (hv : z_v OB T c v) : z_v OB T' (z_mp PHI ph c) v := by
  match c, hv with
  | .inl r, hv => exact hv
  | .inr (.inl t), ⟨a, e, ha⟩ => exact ⟨a, e, by rw [h, ha]; rfl⟩
  | .inr (.inr 0), hv => exact hv
  | .inr (.inr (k + 1)), hv => exact hv
theorem z_tle_ok {ph : Nat} {T' : zTp} (h : ∀ b, T' b = (T b).map (z_phi PHI ph)) {a b : zTy} (hl : z_tle PHI ph a b = true) {q : Nat} (hc : z_cell OB D DA cl T H q a) : z_cell OB D DA cl T' H q b := by
  cases a with
  | inl o =>
    cases b with
    | inr b => cases hl
    | inl b =>
      unfold z_tle at hl
      simp only [Bool.and_eq_true] at hl
      obtain ⟨⟨h1, h2⟩, h3⟩ := hl
      obtain ⟨r, g1, g2, V, g3, g4⟩ := hc
      have e1 := z_beq h1
      have e2 := z_beq h2
      rw [e1] at g1 g3
      refine ⟨r, g1, by rw [← e2]; exact g2, V, g3, fun k c hk => ?_⟩
      have hlt : k < b.2.length := (List.getElem?_eq_some_iff.mp hk).1
      have h4 := List.all_eq_true.mp h3 k (List.mem_range.mpr hlt)
      split at h4
      · rename_i x y hx hy
        rw [hk] at hy
        cases hy
        exact z_le_ok h4 (z_mp_ok h (g4 k x hx))
      · cases h4
  | inr o =>
    cases b with
    | inl b => cases hl
    | inr b =>
      unfold z_tle at hl
      simp only [Bool.and_eq_true] at hl
      obtain ⟨⟨⟨h1, h2⟩, h3⟩, h4⟩ := hl
      obtain ⟨n, f, g1, g2, g3, g4, g5⟩ := hc
      have e1 := z_beq h1
      rw [e1] at g1
      refine ⟨n, f, g1, Nat.le_trans (Nat.le_of_ble_eq_true h2) g2, Nat.le_trans g3 (Nat.le_of_ble_eq_true h3), g4, fun g hg j hj1 hj2 hj3 => ?_⟩
      obtain ⟨x, hx1, hx2⟩ := List.any_eq_true.mp (List.all_eq_true.mp h4 g hg)
      simp only [Bool.and_eq_true] at hx2
      exact z_le_ok hx2.2 (z_mp_ok h (g5 x hx1 j hj1 (Nat.le_trans (Nat.le_of_ble_eq_true hx2.1.1) hj2) (Nat.le_trans hj3 (Nat.le_of_ble_eq_true hx2.1.2))))
theorem z_ht_map {ph : Nat} (hp : z_phok TY PHI ph = true) (h : z_ht OB D DA cl TY T H) : z_ht OB D DA cl TY (fun b => (T b).map (z_phi PHI ph)) H := by
  refine ⟨fun a t ht => ?_, zJ_map h.2 fun a u hT ci fl hty => ?_⟩
  · cases hT : T a with
    | none => simp [hT] at ht
    | some u =>
      have hu : t = z_phi PHI ph u := by simp [hT] at ht; exact ht.symm
      subst hu
      obtain ⟨ty, g1, g2⟩ := h.1 a u hT
      have hlt : u < TY.length := (List.getElem?_eq_some_iff.mp g1).1
      have h1 := List.all_eq_true.mp hp u (List.mem_range.mpr hlt)
      split at h1
      · rename_i x y hx hy
        rw [g1] at hx
        cases hx
        exact ⟨y, hy, z_tle_ok (fun b => rfl) h1 g2⟩
      · cases h1
  · obtain ⟨ty, g1, g2⟩ := h.1 a u hT
    have hlt : u < TY.length := (List.getElem?_eq_some_iff.mp g1).1
    have h1 := List.all_eq_true.mp hp u (List.mem_range.mpr hlt)
    split at h1
    · rename_i x y hx hy
      rw [hty] at hy
      cases hy
      cases x with
      | inl q =>
        simp only [z_tle, Bool.and_eq_true] at h1
        obtain ⟨qc, qf⟩ := q
        have hq : qc = ci := z_beq h1.1.1
        subst hq
        exact ⟨qf, hx⟩
      | inr q => simp [z_tle] at h1
    · cases h1
theorem z_mem_map (hpu : pu = false) {ph : Nat} (hp : z_phok TY PHI ph = true) (h : z_mem OB D DA cl TY PHI sz raw pu T0 H0 T H locs 0) : z_mem OB D DA cl TY PHI sz raw pu T0 H0 (fun b => (T b).map (z_phi PHI ph)) H locs ph := by
  obtain ⟨h1, h2, h3, h4, h5⟩ := h
  refine ⟨z_ht_map hp h1, ⟨fun a t ht => ?_, (fun h => by rw [hpu] at h; cases h), z_fin_tr h2.2.2 fun b u ci fl hb hty2 => ?_⟩, fun a t ht => ?_, fun q hq1 hq2 hq3 => ?_, h5⟩
  · cases hT : T a with
    | none => simp [hT] at ht
    | some u => exact h2.1 a u hT
  · have hlt : u < TY.length := (List.getElem?_eq_some_iff.mp hty2).1
    have g1 := List.all_eq_true.mp hp u (List.mem_range.mpr hlt)
    split at g1
    · rename_i x y hx hy
      rw [hty2] at hx
      cases hx
      match y, g1, hy with
      | .inl q, g1, hy =>
        simp only [z_tle, Bool.and_eq_true] at g1
        obtain ⟨qc, qf⟩ := q
        have hq : ci = qc := z_beq g1.1.1
        subst hq
        exact ⟨_, qf, by simp [hb], hy, fun r k2 w x1 x2 x3 x4 => x4⟩
      | .inr q, g1, hy => simp [z_tle] at g1
    · cases g1
  · have := h3 a t ht
    simp only [this]
    rfl
  · obtain ⟨g1, g2⟩ := h4 q hq1 hq2 hq3
    exact ⟨by simp [g1], g2⟩
theorem z_fx_map {n0 ph : Nat} : ∀ {X : List (Nat × Nat)}, z_fx D cl T sz n0 raw H env X → z_fx D cl (fun b => (T b).map (z_phi PHI ph)) sz n0 raw H env X
  | [], h => h
  | x :: X, ⟨⟨b, h1, h2, h3⟩, hr⟩ => ⟨⟨b, h1, by simp [h2], h3⟩, z_fx_map hr⟩
theorem z_rty_ok (hpu : pu = false) (hg : z_Good p l e R s m args below meth c Q OB D DA cl TY PHI sz raw pu T0 H0 env0 nL good) {ph : Nat} (hp : z_phok TY PHI ph = true) (h : z_rty PHI st ph = some st') (k : good pc st') : good pc st := by
  refine (hg _ _).mpr fun T H locs env ls stk hs => ?_
  obtain ⟨hc, rfl⟩ := z_cond h
  have h0 : z_ph st = 0 := z_beq hc
  have hmem := hs.2.2.2.2.2.2.2.2.2
  rw [h0] at hmem
  refine (hg _ _).mp k (fun b => (T b).map (z_phi PHI ph)) H locs env ls stk ⟨hs.1, hs.2.1, hs.2.2.1, hs.2.2.2.1, fun f hf => ?_, hs.2.2.2.2.2.1, hs.2.2.2.2.2.2.1, hs.2.2.2.2.2.2.2.1, z_fx_map hs.2.2.2.2.2.2.2.2.1, z_mem_map hpu hp hmem⟩
  obtain ⟨q, hq, rfl⟩ := List.mem_map.mp hf
  obtain ⟨v, e1, e2⟩ := hs.2.2.2.2.1 q hq
  exact ⟨v, e1, z_mp_ok (fun b => rfl) e2⟩
theorem z_r_lconst (hg : z_Good p l e R s m args below meth c Q OB D DA cl TY PHI sz raw pu T0 H0 env0 nL good) (hx : p.tables.exec = Jvm.exec) (hb : c.code = cc) {n : Fin 2} (hd : decode cc pc = .ok (.lconst n, 1)) (h : z_lc0 st = some st') (k : good (pc + 1) st') : good pc st := by
  refine (hg _ _).mpr fun T H locs env ls stk hs => ?_
  cases h
  exact lv_lconst hx hb hd rfl ((hg _ _).mp k T H locs _ ls _ (z_sat_psh hs hs.2.2.2.1 (c := .inr (.inr 0)) ⟨_, rfl⟩ (fun q hq => absurd hq List.not_mem_nil)))
theorem z_r_lshl (hg : z_Good p l e R s m args below meth c Q OB D DA cl TY PHI sz raw pu T0 H0 env0 nL good) (hx : p.tables.exec = Jvm.exec) (hb : c.code = cc) (hd : decode cc pc = .ok (.lshl, 1)) (h : z_lsh st = some st') (k : good (pc + 1) st') : good pc st := by
  refine (hg _ _).mpr fun T H locs env ls stk hs => ?_
  unfold z_lsh at h
  split at h
  · rename_i y x S hS
    split at h
    · rename_i r hxx hyy
      cases h
      obtain ⟨vy, k1, rfl, e1, vx, k2, rfl, e2, hk2⟩ := z_stk_cons hS hs.2.2.2.1
      obtain ⟨v, e3, x1, rfl⟩ := z_get_ok hs.2.2.2.2.1 hxx
      obtain ⟨w, e4, y1, rfl, _⟩ := z_get_ok hs.2.2.2.2.1 hyy
      have q1 : vx = .long x1 := Option.some.inj (e2.symm.trans e3)
      have q2 : vy = .int y1 := Option.some.inj (e1.symm.trans e4)
      subst q1; subst q2
      exact lv_lshl hx hb hd rfl ((hg _ _).mp k T H locs _ ls _ (z_sat_psh hs hk2 (c := .inr (.inr 0)) ⟨_, rfl⟩ (fun q hq => absurd hq List.not_mem_nil)))
    · cases h
  · cases h
theorem z_r_lor (hg : z_Good p l e R s m args below meth c Q OB D DA cl TY PHI sz raw pu T0 H0 env0 nL good) (hx : p.tables.exec = Jvm.exec) (hb : c.code = cc) (hd : decode cc pc = .ok (.lor, 1)) (h : z_l2 (.inr (.inr 0)) st = some st') (k : good (pc + 1) st') : good pc st := by
  refine (hg _ _).mpr fun T H locs env ls stk hs => ?_
  unfold z_l2 at h
  split at h
  · rename_i y x S hS
    split at h
    · rename_i hxx hyy
      cases h
      obtain ⟨vy, k1, rfl, e1, vx, k2, rfl, e2, hk2⟩ := z_stk_cons hS hs.2.2.2.1
      obtain ⟨v, e3, x1, rfl⟩ := z_get_ok hs.2.2.2.2.1 hxx
      obtain ⟨w, e4, y1, rfl⟩ := z_get_ok hs.2.2.2.2.1 hyy
      have q1 : vx = .long x1 := Option.some.inj (e2.symm.trans e3)
      have q2 : vy = .long y1 := Option.some.inj (e1.symm.trans e4)
      subst q1; subst q2
      exact lv_lor hx hb hd ((hg _ _).mp k T H locs _ ls _ (z_sat_psh hs hk2 (c := .inr (.inr 0)) ⟨_, rfl⟩ (fun q hq => absurd hq List.not_mem_nil)))
    · cases h
  · cases h
theorem z_r_lcmp (hg : z_Good p l e R s m args below meth c Q OB D DA cl TY PHI sz raw pu T0 H0 env0 nL good) (hx : p.tables.exec = Jvm.exec) (hb : c.code = cc) (hd : decode cc pc = .ok (.lcmp, 1)) (h : z_l2 (.inl z_full) st = some st') (k : good (pc + 1) st') : good pc st := by
  refine (hg _ _).mpr fun T H locs env ls stk hs => ?_
  unfold z_l2 at h
  split at h
  · rename_i y x S hS
    split at h
    · rename_i hxx hyy
      cases h
      obtain ⟨vy, k1, rfl, e1, vx, k2, rfl, e2, hk2⟩ := z_stk_cons hS hs.2.2.2.1
      obtain ⟨v, e3, x1, rfl⟩ := z_get_ok hs.2.2.2.2.1 hxx
      obtain ⟨w, e4, y1, rfl⟩ := z_get_ok hs.2.2.2.2.1 hyy
      have q1 : vx = .long x1 := Option.some.inj (e2.symm.trans e3)
      have q2 : vy = .long y1 := Option.some.inj (e1.symm.trans e4)
      subst q1; subst q2
      exact W.lcmp hx hb hd ((hg _ _).mp k T H locs _ ls _ (z_sat_psh hs hk2 (z_vi (z_in_full _)) (fun q hq => absurd hq List.not_mem_nil)))
    · cases h
  · cases h
end ZMAKES2
end
section
/-! Contracts: what a method asks and what it answers. -/
abbrev zLoc : Type := Nat × Nat × Nat × Option Nat
abbrev zP : Type := List (Nat × zV) × Option zV × List (zV × Option Int × Option Int) × List (zLoc × zV)
/-- parameters; the class of a raw first one; places with what they hold at first; ends; nothing written; cells and slots; frames and locals; retyping -/
abbrev zSig : Type := List zV × Option Nat × List (zLoc × zV) × List zP × Bool × (Nat × Nat) × (Nat × Nat) × Nat
abbrev g_prm (g : zSig) := g.1
abbrev g_raw (g : zSig) := g.2.1
abbrev g_loc (g : zSig) := g.2.2.1
abbrev g_pst (g : zSig) := g.2.2.2.1
abbrev g_pur (g : zSig) := g.2.2.2.2.1
abbrev g_mk (g : zSig) := g.2.2.2.2.2.1
abbrev g_rm (g : zSig) := g.2.2.2.2.2.2.1
abbrev g_ph (g : zSig) := g.2.2.2.2.2.2.2
/-- what stands in a place that is named from an argument on -/
def z_lv (D : va_G) (cl : List vw_C) (H : Heap) (o : Option Value) (q : zLoc) (w : Value) : Prop := ∃ a r, o = some (.ref a) ∧ cl[q.2.1]? = some r ∧ q.2.2.1 < r.2.2 ∧ (match q.2.2.2 with
  | none => z_sl H a (D.2 q.2.1 q.2.2.1) w
  | some c => ∃ b : Nat, z_sl H a (D.2 q.2.1 q.2.2.1) (.ref b) ∧ z_sl H b c w)
theorem z_sl_fun {H : Heap} {a k : Nat} {v w : Value} (h : z_sl H a k v) (h2 : z_sl H a k w) : v = w := by
  obtain ⟨c1, e1, _, e3⟩ := h
  obtain ⟨c2, f1, _, f3⟩ := h2
  rw [e1] at f1
  cases f1
  rw [e3] at f3
  exact Option.some.inj f3
theorem z_lv_fun {D : va_G} {cl : List vw_C} {H : Heap} {o : Option Value} {q : zLoc} {v w : Value} (h : z_lv D cl H o q v) (h2 : z_lv D cl H o q w) : v = w := by
  obtain ⟨a, r, e1, e2, e3, e4⟩ := h
  obtain ⟨b, r2, f1, f2, f3, f4⟩ := h2
  rw [e1] at f1
  cases f1
  rcases q with ⟨j, ci, k, _ | c⟩
  · exact z_sl_fun e4 f4
  · obtain ⟨x, x1, x2⟩ := e4
    obtain ⟨y, y1, y2⟩ := f4
    have := z_sl_fun x1 y1
    cases this
    exact z_sl_fun x2 y2
/-- a symbol for what a field holds -/
def z_gf (TY : List zTy) (st : zS) (d ci k : Nat) : Option (zS × Nat) := match z_ffind st d ci k with
  | some w => some (st, w)
  | none => (match z_get (z_V st) d with
    | some (.inr (.inl t)) => (match TY[t]? with
      | some (.inl o) => (match o.2[k]? with
        | some c => cond (Nat.beq o.1 ci) (some ((z_L st, z_S st, z_n st + 1, (z_n st, c) :: z_V st, (d, ci, k, z_n st) :: z_F st, z_E st, z_R st, z_X st, z_C st, z_ph st), z_n st)) none
        | none => none)
      | _ => none)
    | _ => none)
/-- a symbol for a constant -/
def z_gc (st : zS) (c : Nat) : zS := (z_L st, z_S st, z_n st + 1, (z_n st, .inl ((c : Int), (c : Int))) :: z_V st, z_F st, z_E st, z_R st, z_X st, z_C st, z_ph st)
/-- a symbol for what an entry holds -/
def z_ge (TY : List zTy) (st : zS) (d j c : Nat) : Option (zS × Nat) := match z_efind st d j with
  | some w => some (st, w)
  | none => (match z_get (z_V st) d with
    | some (.inr (.inl t)) => (match TY[t]? with
      | some (.inr q) => (match z_seg q.2.2 ((c : Int), (c : Int)) with
        | some v => cond (Nat.blt c q.2.1.1) (some ((z_L st, z_S st, z_n st + 1, (z_n st, v) :: z_V st, z_F st, (d, j, z_n st) :: z_E st, z_R st, z_X st, z_C st, z_ph st), z_n st)) none
        | none => none)
      | _ => none)
    | _ => none)
def z_gl (TY : List zTy) (st : zS) (d : Nat) (q : zLoc) : Option (zS × Nat) := match z_gf TY st d q.2.1 q.2.2.1 with
  | some (st1, w) => (match q.2.2.2 with
    | none => some (st1, w)
    | some c => cond (Nat.ble c 1000000) (z_ge TY (z_gc st1 c) w (z_n st1) c) none)
  | none => none
/-- the same but for what is known -/
def z_ext (st st' : zS) : Prop := z_L st' = z_L st ∧ z_S st' = z_S st ∧ z_X st' = z_X st ∧ z_C st' = z_C st ∧ z_ph st' = z_ph st ∧ z_n st ≤ z_n st'
section ZGH
variable {OB : Nat → Nat} {D : va_G} {DA : Nat → ClassId} {cl : List vw_C} {TY : List zTy} {PHI : List (List Nat)} {sz : Nat} {raw : Option Nat} {pu : Bool} {T0 : zTp} {H0 : Heap} {env0 : List Value} {nL : Nat} {st st' : zS} {T : zTp} {H : Heap} {locs : List Loc} {env : List Value} {ls : Array Slot} {stk : List Value}
theorem z_pre_app {w1 : List Value} {v : Value} (h : ∃ w, env = env0 ++ w) : ∃ w, env ++ [v] = env0 ++ w := by
  obtain ⟨w, hw⟩ := h
  exact ⟨w ++ [v], by rw [hw, List.append_assoc]⟩
theorem z_gf_ok {d ci k w : Nat} (h : z_gf TY st d ci k = some (st', w)) (hs : z_sat OB D DA cl TY PHI sz raw pu T0 H0 env0 nL st T H locs env ls stk) :
    ∃ (x : List Value) (a : Nat) (v : Value), z_sat OB D DA cl TY PHI sz raw pu T0 H0 env0 nL st' T H locs (env ++ x) ls stk ∧ z_ext st st' ∧ env[d]? = some (.ref a) ∧ (env ++ x)[w]? = some v ∧ z_sl H a (D.2 ci k) v := by
  unfold z_gf at h
  split at h
  · rename_i w2 hw
    cases h
    obtain ⟨a, v, e1, e2, e3⟩ := z_ffind_ok hw hs
    exact ⟨[], a, v, by rw [List.append_nil]; exact hs, ⟨rfl, rfl, rfl, rfl, rfl, Nat.le_refl _⟩, e1, by rw [List.append_nil]; exact e2, e3⟩
  · split at h
    · rename_i t ht
      split at h
      · rename_i o ho
        split at h
        · rename_i c0 hc0
          obtain ⟨hb1, hh⟩ := z_cond h
          cases hh
          obtain ⟨ci2, fl⟩ := o
          have ho1 : ci2 = ci := z_beq hb1
          subst ho1
          obtain ⟨a, r, V, g1, g2, g3, g4, g5, g6⟩ := z_obj hs ht ho
          have hlt : k < r.2.2 := by rw [← g4]; exact (List.getElem?_eq_some_iff.mp hc0).1
          have hsl : z_sl H a (D.2 ci2 k) (V k) := by
            obtain ⟨cell, x1, x2, x3, x4⟩ := g5
            exact ⟨cell, x1, x3, x4 _ hlt⟩
          have hn : (env ++ [V k])[z_n st]? = some (V k) := by rw [← hs.1]; simp
          refine ⟨[V k], a, V k, ⟨by show (env ++ [V k]).length = z_n st + 1; rw [List.length_append, hs.1]; rfl, z_pre_app (w1 := []) hs.2.1, z_ls_app hs.2.2.1, z_stk_app hs.2.2.2.1, fun f hf => ?_, fun f hf => ?_, z_fe_app hs.2.2.2.2.2.2.1, z_fr_app hs.2.2.2.2.2.2.2.1, z_fx_app hs.2.2.2.2.2.2.2.2.1, hs.2.2.2.2.2.2.2.2.2⟩, ⟨rfl, rfl, rfl, rfl, rfl, Nat.le_succ _⟩, g1, hn, hsl⟩
          · rcases List.mem_cons.mp hf with rfl | hf
            · exact ⟨_, hn, g6 _ _ hc0⟩
            · exact z_fv_app hs.2.2.2.2.1 f hf
          · rcases List.mem_cons.mp hf with rfl | hf
            · exact ⟨a, _, r, z_app g1, hn, g3, hlt, hsl⟩
            · exact z_ff_app hs.2.2.2.2.2.1 f hf
        · cases h
      · cases h
    · cases h
theorem z_gc_ok {c : Nat} (hc : c ≤ 1000000) (hs : z_sat OB D DA cl TY PHI sz raw pu T0 H0 env0 nL st T H locs env ls stk) : ∃ i : Int32, i.toInt = (c : Int) ∧ (env ++ [.int i])[z_n st]? = some (.int i) ∧ z_sat OB D DA cl TY PHI sz raw pu T0 H0 env0 nL (z_gc st c) T H locs (env ++ [.int i]) ls stk := by
  have hi : (Int32.ofNat c).toInt = (c : Int) := Int32.toInt_ofNat_of_lt (by omega)
  have hn : (env ++ [Value.int (Int32.ofNat c)])[z_n st]? = some (.int (Int32.ofNat c)) := by rw [← hs.1]; simp
  refine ⟨Int32.ofNat c, hi, hn, by show (env ++ [Value.int (Int32.ofNat c)]).length = z_n st + 1; rw [List.length_append, hs.1]; rfl, z_pre_app (w1 := []) hs.2.1, z_ls_app hs.2.2.1, z_stk_app hs.2.2.2.1, fun f hf => ?_, z_ff_app hs.2.2.2.2.2.1, z_fe_app hs.2.2.2.2.2.2.1, z_fr_app hs.2.2.2.2.2.2.2.1, z_fx_app hs.2.2.2.2.2.2.2.2.1, hs.2.2.2.2.2.2.2.2.2⟩
  rcases List.mem_cons.mp hf with rfl | hf
  · exact ⟨_, hn, z_vi ⟨by rw [hi]; exact Int.le_refl _, by rw [hi]; exact Int.le_refl _⟩⟩
  · exact z_fv_app hs.2.2.2.2.1 f hf
theorem z_ge_ok {d j c w : Nat} {i : Int32} (hi : i.toInt = (c : Int)) (hj : env[j]? = some (.int i)) (h : z_ge TY st d j c = some (st', w)) (hs : z_sat OB D DA cl TY PHI sz raw pu T0 H0 env0 nL st T H locs env ls stk) :
    ∃ (x : List Value) (b : Nat) (v : Value), z_sat OB D DA cl TY PHI sz raw pu T0 H0 env0 nL st' T H locs (env ++ x) ls stk ∧ z_ext st st' ∧ env[d]? = some (.ref b) ∧ (env ++ x)[w]? = some v ∧ z_sl H b c v := by
  unfold z_ge at h
  split at h
  · rename_i w2 hw
    cases h
    obtain ⟨a, v, e1, e2, e3, e4⟩ := z_efind_ok hw hs hj
    rw [hi] at e4
    exact ⟨[], a, v, by rw [List.append_nil]; exact hs, ⟨rfl, rfl, rfl, rfl, rfl, Nat.le_refl _⟩, e1, by rw [List.append_nil]; exact e2, by simpa using e4⟩
  · split at h
    · rename_i t ht
      split at h
      · rename_i q hq
        split at h
        · rename_i v0 hv0
          obtain ⟨hb1, hh⟩ := z_cond h
          cases hh
          obtain ⟨ek, ⟨lo, hi2⟩, sg⟩ := q
          have hlt := z_blt hb1
          obtain ⟨a, n, f, g1, g2, g3, g4, g5, g6, g7⟩ := z_arr hs ht hq
          have hcn : c < n := Nat.lt_of_lt_of_le hlt g4
          have hsl : z_sl H a c (f c) := ⟨_, g3, rfl, arrV_read _ _ hcn⟩
          unfold z_seg at hv0
          cases hfi : sg.find? (fun g => z_ile (g.1.1 : Int) ((c : Int), (c : Int)).1 && z_ile ((c : Int), (c : Int)).2 (g.1.2 : Int)) with
          | none => rw [hfi] at hv0; cases hv0
          | some g =>
            rw [hfi] at hv0
            cases hv0
            have hm := List.mem_of_find?_eq_some hfi
            have hp := List.find?_some hfi
            rw [Bool.and_eq_true] at hp
            have p1 := z_ile_ok hp.1
            have p2 := z_ile_ok hp.2
            have hv := g7 g hm c hcn (by omega) (by omega)
            have hn : (env ++ [f c])[z_n st]? = some (f c) := by rw [← hs.1]; simp
            refine ⟨[f c], a, f c, ⟨by show (env ++ [f c]).length = z_n st + 1; rw [List.length_append, hs.1]; rfl, z_pre_app (w1 := []) hs.2.1, z_ls_app hs.2.2.1, z_stk_app hs.2.2.2.1, fun f2 hf => ?_, z_ff_app hs.2.2.2.2.2.1, fun f2 hf => ?_, z_fr_app hs.2.2.2.2.2.2.2.1, z_fx_app hs.2.2.2.2.2.2.2.2.1, hs.2.2.2.2.2.2.2.2.2⟩, ⟨rfl, rfl, rfl, rfl, rfl, Nat.le_succ _⟩, g1, hn, hsl⟩
            · rcases List.mem_cons.mp hf with rfl | hf
              · exact ⟨_, hn, hv⟩
              · exact z_fv_app hs.2.2.2.2.1 f2 hf
            · rcases List.mem_cons.mp hf with rfl | hf
              · exact ⟨a, i, _, z_app g1, z_app hj, by omega, hn, by rw [hi]; simpa using hsl⟩
              · exact z_fe_app hs.2.2.2.2.2.2.1 f2 hf
        · cases h
      · cases h
    · cases h
theorem z_gl_ok {d w : Nat} {q : zLoc} {r : vw_C} (hr : cl[q.2.1]? = some r) (hk : q.2.2.1 < r.2.2) (h : z_gl TY st d q = some (st', w)) (hs : z_sat OB D DA cl TY PHI sz raw pu T0 H0 env0 nL st T H locs env ls stk) :
    ∃ (x : List Value) (v : Value), z_sat OB D DA cl TY PHI sz raw pu T0 H0 env0 nL st' T H locs (env ++ x) ls stk ∧ z_ext st st' ∧ (env ++ x)[w]? = some v ∧ z_lv D cl H (env[d]?) q v := by
  unfold z_gl at h
  split at h
  · rename_i st1 w1 h1
    obtain ⟨x, a, v, g1, g2, g3, g4, g5⟩ := z_gf_ok h1 hs
    split at h
    · rename_i ho
      cases h
      refine ⟨x, v, g1, g2, g4, a, r, g3, hr, hk, ?_⟩
      rw [ho]
      exact g5
    · rename_i c ho
      cases hc : Nat.ble c 1000000 with
      | false => rw [hc] at h; cases h
      | true =>
        rw [hc] at h
        obtain ⟨i, i1, i2, i3⟩ := z_gc_ok (Nat.le_of_ble_eq_true hc) g1
        obtain ⟨y, b, v2, k1, k2, k3, k4, k5⟩ := z_ge_ok i1 i2 h i3
        rw [z_app g4] at k3
        cases k3
        refine ⟨x ++ [.int i] ++ y, v2, by rw [← List.append_assoc, ← List.append_assoc]; exact k1, ?_, by rw [← List.append_assoc, ← List.append_assoc]; exact k4, a, r, g3, hr, hk, ?_⟩
        · obtain ⟨a1, a2, a3, a4, a5, a6⟩ := g2
          obtain ⟨b1, b2, b3, b4, b5, b6⟩ := k2
          exact ⟨b1.trans a1, b2.trans a2, b3.trans a3, b4.trans a4, b5.trans a5, Nat.le_trans a6 (Nat.le_trans (Nat.le_succ _) b6)⟩
        · rw [ho]
          exact ⟨b, g5, k5⟩
  · cases h
end ZGH
end
section
/-! Entry and end of a method. -/
def z_tys (DA : Nat → ClassId) : List (ClassId × FieldType) := [(DA 0, .int), (DA 1, .byte), (DA 2, .long)]
def z_gls (TY : List zTy) (cl : List vw_C) (As : List Nat) : List (zLoc × zV) → zS → Option (zS × List Nat)
  | [], st => some (st, [])
  | q :: r, st => match As[q.1.1]?, cl[q.1.2.1]? with
    | some d, some c => cond (Nat.blt q.1.2.2.1 c.2.2) (match z_gl TY st d q.1 with
      | some (st1, w) => (match z_gls TY cl As r st1 with
        | some (st2, ws) => some (st2, w :: ws)
        | none => none)
      | none => none) none
    | _, _ => none
def z_en : Nat → List zV → List (Nat × zV)
  | _, [] => []
  | i, c :: r => (i, c) :: z_en (i + 1) r
theorem z_en_mem : ∀ {L : List zV} {i : Nat} {q : Nat × zV}, q ∈ z_en i L → ∃ j, L[j]? = some q.2 ∧ q.1 = i + j
  | [], i, q, h => absurd h List.not_mem_nil
  | c :: r, i, q, h => by
    rcases List.mem_cons.mp h with rfl | h
    · exact ⟨0, rfl, rfl⟩
    · obtain ⟨j, h1, h2⟩ := z_en_mem h
      exact ⟨j + 1, by simpa using h1, by omega⟩
def z_c1 (c : zV) : Bool := match c with
  | .inl _ => true
  | .inr (.inl _) => true
  | .inr (.inr 0) => false
  | .inr (.inr (_ + 1)) => true
def z_Pre (OB : Nat → Nat) (D : va_G) (DA : Nat → ClassId) (cl : List vw_C) (FT : Nat → Nat → FieldType) (TY : List zTy) (sz : Nat) (KX : State → Heap → Prop) (g : zSig) (T : zTp) (args : Array Value) (U : State) : Prop :=
  ∃ vals : List Value, args = vals.toArray ∧ vals.length = (g_prm g).length ∧
    (∀ j c, (g_prm g)[j]? = some c → (g_raw g = none ∨ j ≠ 0) → ∃ v, vals[j]? = some v ∧ z_v OB T c v) ∧
    (∀ ci, g_raw g = some ci → ∃ a r V, vals[0]? = some (.ref a) ∧ T a = none ∧ sz ≤ a ∧ cl[ci]? = some r ∧ t_OB a (D.1 ci) r.2.2 (D.2 ci) U.heap V ∧ ∀ k, k < r.2.2 → z_zf (FT ci k) = true → V k = .int 0) ∧
    (∀ q ∈ g_loc g, ∃ w, z_lv D cl U.heap (vals[q.1.1]?) q.1 w ∧ z_v OB T q.2 w) ∧
    z_ht OB D DA cl TY T U.heap ∧ (∀ a t, T a = some t → sz ≤ a) ∧ sz ≤ U.heap.size ∧ va_K D cl (z_tys DA) U ∧ KX U U.heap
/-- one of a method's ends -/
def z_Cs (OB : Nat → Nat) (D : va_G) (cl : List vw_C) (g : zSig) (T' : zTp) (vals : List Value) (H H' : Heap) (v : Option Value) (P : zP) : Prop :=
  (∀ q ∈ P.1, ∃ x, vals[q.1]? = some x ∧ z_v OB T' q.2 x) ∧
  (match P.2.1, v with
    | none, none => True
    | some c, some x => z_v OB T' c x
    | _, _ => False) ∧
  (∀ q ∈ P.2.2.2, ∃ w, z_lv D cl H' (vals[q.1.1]?) q.1 w ∧ z_v OB T' q.2 w) ∧
  (∀ (i : Nat) (q : zLoc × zV) (h : zV × Option Int × Option Int), (g_loc g)[i]? = some q → P.2.2.1[i]? = some h → ∃ w0 w, z_lv D cl H (vals[q.1.1]?) q.1 w0 ∧ z_lv D cl H' (vals[q.1.1]?) q.1 w ∧ z_v OB T' h.1 w ∧
    (∀ k, h.2.1 = some k → ∃ x y : Int32, w0 = .int x ∧ w = .int y ∧ x.toInt + k ≤ y.toInt) ∧ (∀ k, h.2.2 = some k → ∃ x y : Int32, w0 = .int x ∧ w = .int y ∧ y.toInt ≤ x.toInt + k))
def z_Post (OB : Nat → Nat) (D : va_G) (DA : Nat → ClassId) (cl : List vw_C) (TY : List zTy) (PHI : List (List Nat)) (sz : Nat) (g : zSig) (T : zTp) (args : Array Value) (st : State) (o : Outcome) (t : State) : Prop :=
  ∃ (vals : List Value) (v : Option Value) (T' : zTp), args = vals.toArray ∧ o = .returned v ∧ z_ht OB D DA cl TY T' t.heap ∧ (∀ a u, T' a = some u → sz ≤ a) ∧ (∀ a u, T a = some u → T' a = some (z_phi PHI (g_ph g) u)) ∧
    (∀ q, q < st.heap.size → T q = none → ((g_raw g).isSome = true → vals[0]? ≠ some (.ref q)) → T' q = none ∧ t.heap[q]? = st.heap[q]?) ∧ st.heap.size ≤ t.heap.size ∧ (∀ q, q < st.heap.size → ¬ sz ≤ q → t.heap[q]? = st.heap[q]?) ∧
    ((g_pur g = true → t.heap = st.heap ∧ T' = T) ∧ z_fin D cl TY T st.heap T' t.heap) ∧ ∃ P ∈ g_pst g, z_Cs OB D cl g T' vals st.heap t.heap v P
/-- the state at the entry, and the symbols of the places -/
def z_ent (TY : List zTy) (cl : List vw_C) (FT : Nat → Nat → FieldType) (nL : Nat) (g : zSig) : Option (zS × List Nat) :=
  cond ((g_prm g).all z_c1 && Nat.ble (g_prm g).length nL) (match g_raw g with
    | none => (match z_gls TY cl (List.range (g_prm g).length) (g_loc g) ((List.range (g_prm g).length).map (fun i => (i, i)), [], (g_prm g).length, z_en 0 (g_prm g), [], [], [], [], (0, 0), 0) with
      | some (st, ws) => some (z_mor st [] (ws.zip ((g_loc g).map (fun q => q.2))) [], ws)
      | none => none)
    | some ci => (match cl[ci]?, g_loc g, g_prm g with
      | some r, [], _ :: ps => some (((List.range (ps.length + 1)).map (fun i => (i, i)), [], ps.length + 2, (ps.length + 1, .inl (0, 0)) :: z_en 1 ps, ((List.range r.2.2).filter (fun k => z_zf (FT ci k))).map (fun k => (0, ci, k, ps.length + 1)), [], [], [(0, ci)], (0, 0), 0), [])
      | _, _, _ => none)) none
/-- the ends that fit -/
def z_ret (TY : List zTy) (cl : List vw_C) (g : zSig) (ws : List Nat) (st : zS) (rid : Option Nat) : Bool :=
  Nat.beq (z_ph st) (g_ph g) && Nat.ble (z_C st).1 (g_mk g).1 && Nat.ble (z_C st).2 (g_mk g).2 &&
  (match z_gls TY cl (List.range (g_prm g).length) (g_loc g) st with
    | some (st2, fs) => (g_pst g).any (fun P => P.1.all (fun q => match z_get (z_V st2) q.1 with
        | some c => z_le c q.2 && Nat.blt q.1 (g_prm g).length
        | none => false) &&
      (match P.2.1, rid with
        | none, none => true
        | some c, some r => (match z_get (z_V st2) r with
          | some c' => z_le c' c
          | none => false)
        | _, _ => false) &&
      (match z_gls TY cl (List.range (g_prm g).length) P.2.2.2 st2 with
        | some (st3, ns) => (List.range P.2.2.2.length).all (fun i => match P.2.2.2[i]?, ns[i]? with
          | some q, some w => (match z_get (z_V st3) w with
            | some c => z_le c q.2
            | none => false)
          | _, _ => false)
        | none => false) &&
      (List.range (g_loc g).length).all (fun i => match P.2.2.1[i]?, ws[i]?, fs[i]? with
        | some h, some w0, some w => (match z_get (z_V st2) w with
          | some c => z_le c h.1
          | none => false) && (match h.2.1 with
          | some k => z_isi st2 w && z_isi st2 w0 && z_kx (z_R st2) w w0 k
          | none => true) && (match h.2.2 with
          | some k => z_isi st2 w && z_isi st2 w0 && z_kx (z_R st2) w0 w (-k)
          | none => true)
        | none, _, _ => true
        | _, _, _ => false))
    | none => false)
section ZENDS
variable {OB : Nat → Nat} {D : va_G} {DA : Nat → ClassId} {cl : List vw_C} {FT : Nat → Nat → FieldType} {TY : List zTy} {PHI : List (List Nat)} {sz : Nat} {raw : Option Nat} {pu : Bool} {T0 : zTp} {H0 : Heap} {env0 : List Value} {nL : Nat} {st st' : zS} {T : zTp} {H : Heap} {locs : List Loc} {env : List Value} {ls : Array Slot} {stk : List Value}
theorem z_ext_rf : z_ext st st := ⟨rfl, rfl, rfl, rfl, rfl, Nat.le_refl _⟩
theorem z_ext_tr {s1 s2 s3 : zS} (a : z_ext s1 s2) (b : z_ext s2 s3) : z_ext s1 s3 := by
  obtain ⟨a1, a2, a3, a4, a5, a6⟩ := a
  obtain ⟨b1, b2, b3, b4, b5, b6⟩ := b
  exact ⟨b1.trans a1, b2.trans a2, b3.trans a3, b4.trans a4, b5.trans a5, Nat.le_trans a6 b6⟩
theorem z_lv_app {d : Nat} {x : List Value} {q : zLoc} {v : Value} (h : z_lv D cl H (env[d]?) q v) : z_lv D cl H ((env ++ x)[d]?) q v := by
  obtain ⟨a, r, e1, e2⟩ := h
  exact ⟨a, r, z_app e1, e2⟩
theorem z_gls_ok {As : List Nat} : ∀ {L : List (zLoc × zV)} {st st' : zS} {env : List Value} {ws : List Nat}, z_gls TY cl As L st = some (st', ws) → z_sat OB D DA cl TY PHI sz raw pu T0 H0 env0 nL st T H locs env ls stk →
    ∃ x, z_sat OB D DA cl TY PHI sz raw pu T0 H0 env0 nL st' T H locs (env ++ x) ls stk ∧ z_ext st st' ∧ ws.length = L.length ∧ ∀ (i : Nat) (q : zLoc × zV) (w : Nat), L[i]? = some q → ws[i]? = some w → ∃ (v : Value) (d : Nat), (env ++ x)[w]? = some v ∧ As[q.1.1]? = some d ∧ z_lv D cl H ((env ++ x)[d]?) q.1 v
  | [], st, st', env, ws, h, hs => by
    cases h
    exact ⟨[], by rw [List.append_nil]; exact hs, z_ext_rf, rfl, fun i q w h1 => by simp at h1⟩
  | q :: r, st, st', env, ws, h, hs => by
    unfold z_gls at h
    split at h
    · rename_i d c hd hc
      cases hb : Nat.blt q.1.2.2.1 c.2.2 with
      | false => rw [hb] at h; cases h
      | true =>
        rw [hb] at h
        cases h1 : z_gl TY st d q.1 with
        | none => rw [h1] at h; cases h
        | some y =>
          obtain ⟨st1, w⟩ := y
          rw [h1] at h
          obtain ⟨x, v, g1, g2, g3, g4⟩ := z_gl_ok hc (z_blt hb) h1 hs
          cases h2 : z_gls TY cl As r st1 with
          | none => simp only [h2] at h; cases h
          | some z =>
            obtain ⟨st2, ws2⟩ := z
            simp only [h2] at h
            cases h
            obtain ⟨x2, k1, k2, k3, k4⟩ := z_gls_ok h2 g1
            refine ⟨x ++ x2, by rw [← List.append_assoc]; exact k1, z_ext_tr g2 k2, by simp [k3], fun i q2 w2 hi hw => ?_⟩
            cases i with
            | zero =>
              have e1 : q = q2 := by simpa using hi
              have e2 : w = w2 := by simpa using hw
              subst e1; subst e2
              exact ⟨v, d, by rw [← List.append_assoc]; exact z_app g3, hd, z_lv_app g4⟩
            | succ i =>
              obtain ⟨v2, d2, m1, m2, m3⟩ := k4 i q2 w2 (by simpa using hi) (by simpa using hw)
              exact ⟨v2, d2, by rw [← List.append_assoc]; exact m1, m2, by rw [← List.append_assoc]; exact m3⟩
    · cases h
end ZENDS
end
section
/-! The entry of a method; its returns. -/
section ZENTRY
variable {p : Program} {l : Launch} {e : Env} {R : Room} {s : State} {m : MethodId} {args : Array Value} {below : List Frame} {meth : Method} {c : Code} {Q : State → Prop} {cc : ByteArray} {pc : Nat}
variable {OB : Nat → Nat} {D : va_G} {DA : Nat → ClassId} {cl : List vw_C} {FT : Nat → Nat → FieldType} {TY : List zTy} {PHI : List (List Nat)} {sz : Nat} {raw : Option Nat} {pu : Bool} {T0 : zTp} {H0 : Heap} {env0 : List Value} {nL : Nat} {st st' : zS} {T : zTp} {H : Heap} {locs : List Loc} {env : List Value} {ls : Array Slot} {stk : List Value} {KX : State → Heap → Prop} {g : zSig}
theorem z_c1_ok {k : zV} {v : Value} (h : z_c1 k = true) (hv : z_v OB T k v) : v.category = 1 := by
  match k, h, hv with
  | .inl r, _, ⟨x, e, _⟩ => rw [e]; rfl
  | .inr (.inl t), _, ⟨a, e, _⟩ => rw [e]; rfl
  | .inr (.inr (k + 1)), _, e => 
    have e : v = .ref (OB k) := e
    rw [e]; rfl
theorem z_args1 : ∀ (vs : List Value) (i : Nat), (∀ v ∈ vs, v.category = 1) → (lg_sl vs).length = vs.length ∧ (∀ q ∈ lv_args i vs, q.2.category = 1) ∧ ∀ j v, vs[j]? = some v → (i + j, v) ∈ lv_args i vs
  | [], i, _ => ⟨rfl, fun q h => absurd h List.not_mem_nil, fun j v h => by simp at h⟩
  | x :: vs, i, h => by
    have hx := h x List.mem_cons_self
    have hne : ¬ x.category = 2 := by omega
    obtain ⟨h1, h2, h3⟩ := z_args1 vs (i + 1) (fun v hv => h v (List.mem_cons_of_mem _ hv))
    have e1 : lg_sl (x :: vs) = [.val x] ++ lg_sl vs := by
      unfold lg_sl
      rw [List.flatMap_cons, if_neg hne]
    have e2 : lv_args i (x :: vs) = (i, x) :: lv_args (i + 1) vs := by
      show (i, x) :: lv_args (if x.category = 2 then i + 2 else i + 1) vs = _
      rw [if_neg hne]
    refine ⟨by rw [e1]; simp [h1], fun q hq => ?_, fun j v hj => ?_⟩
    · rw [e2] at hq
      rcases List.mem_cons.mp hq with rfl | hq
      · exact hx
      · exact h2 q hq
    · rw [e2]
      cases j with
      | zero =>
        have : x = v := by simpa using hj
        rw [this]
        exact List.mem_cons_self
      | succ j =>
        have := h3 j v (by simpa using hj)
        rw [show i + (j + 1) = i + 1 + j by omega]
        exact List.mem_cons_of_mem _ this
theorem z_ls_entry {vals : List Value} (h1 : ∀ v ∈ vals, v.category = 1) (hn : vals.length ≤ nL) {x : List Value} : z_ls nL ((lg_sl vals ++ List.replicate (nL - (lg_sl vals).length) Slot.unset).toArray) (vals ++ x) ((List.range vals.length).map (fun i => (i, i))) := by
  obtain ⟨a1, a2, a3⟩ := z_args1 vals 0 h1
  refine ⟨_, lv_entry vals (by rw [a1]; exact hn), a2, fun q hq => ?_⟩
  obtain ⟨i, hi, rfl⟩ := List.mem_map.mp hq
  have hlt := List.mem_range.mp hi
  have hg := List.getElem?_eq_getElem hlt
  refine ⟨_, z_app hg, ?_⟩
  have := a3 i _ hg
  rwa [Nat.zero_add] at this
theorem z_vals1 {vals : List Value} (hl : vals.length = (g_prm g).length) (hc : (g_prm g).all z_c1 = true) (h1 : ∀ j c, (g_prm g)[j]? = some c → (g_raw g = none ∨ j ≠ 0) → ∃ v, vals[j]? = some v ∧ z_v OB T c v) (h2 : ∀ ci, g_raw g = some ci → ∃ a : Nat, vals[0]? = some (.ref a)) : ∀ v ∈ vals, v.category = 1 := by
  intro v hv
  obtain ⟨j, hj⟩ := List.getElem?_of_mem hv
  have hlt : j < (g_prm g).length := by rw [← hl]; exact (List.getElem?_eq_some_iff.mp hj).1
  have hg := List.getElem?_eq_getElem hlt
  cases hr : g_raw g with
  | none =>
    obtain ⟨w, e1, e2⟩ := h1 j _ hg (Or.inl hr)
    rw [hj] at e1
    cases e1
    exact z_c1_ok (List.all_eq_true.mp hc _ (List.getElem_mem hlt)) e2
  | some ci =>
    by_cases hj0 : j = 0
    · subst hj0
      obtain ⟨a, ha⟩ := h2 ci hr
      rw [hj] at ha
      cases ha
      rfl
    · obtain ⟨w, e1, e2⟩ := h1 j _ hg (Or.inr hj0)
      rw [hj] at e1
      cases e1
      exact z_c1_ok (List.all_eq_true.mp hc _ (List.getElem_mem hlt)) e2
theorem z_sat_env0 (h : z_sat OB D DA cl TY PHI sz raw pu T0 H0 env0 nL st T H locs env ls stk) : z_sat OB D DA cl TY PHI sz raw pu T0 H0 env nL st T H locs env ls stk := ⟨h.1, ⟨[], by rw [List.append_nil]⟩, h.2.2⟩
/-- what the entry gives -/
theorem z_ent_ok {ws : List Nat} {U : State} {vals : List Value} (hp : z_Pre OB D DA cl FT TY sz KX g T vals.toArray U) (h : z_ent TY cl FT nL g = some (st, ws)) :
    (∀ v ∈ vals, v.category = 1) ∧ vals.length ≤ nL ∧ ∃ (env : List Value) (raw : Option Nat), (∀ q, raw = some q ↔ ((g_raw g).isSome = true ∧ vals[0]? = some (.ref q))) ∧
      z_sat OB D DA cl TY PHI sz raw pu T U.heap env nL st T U.heap [] env ((lg_sl vals ++ List.replicate (nL - (lg_sl vals).length) Slot.unset).toArray) [] ∧ vals.length = (g_prm g).length ∧ (∀ (j : Nat) (v : Value), vals[j]? = some v → env[j]? = some v) ∧
      ws.length = (g_loc g).length ∧ (∀ (i : Nat) (q : zLoc × zV) (w : Nat), (g_loc g)[i]? = some q → ws[i]? = some w → ∃ v : Value, env[w]? = some v ∧ z_lv D cl U.heap (vals[q.1.1]?) q.1 v) := by
  obtain ⟨vals2, e0, hl, h1, h2, h3, h4, h5, h6, h7, h8⟩ := hp
  have : vals = vals2 := by
    have := congrArg Array.toList e0
    simpa using this
  subst this
  unfold z_ent at h
  cases hc : ((g_prm g).all z_c1 && Nat.ble (g_prm g).length nL) with
  | false => rw [hc] at h; cases h
  | true =>
    rw [hc] at h
    rw [Bool.and_eq_true] at hc
    have hcat := z_vals1 hl hc.1 h1 (fun ci hci => by obtain ⟨a, r, V, x, _⟩ := h2 ci hci; exact ⟨a, x⟩)
    have hn : vals.length ≤ nL := by rw [hl]; exact Nat.le_of_ble_eq_true hc.2
    refine ⟨hcat, hn, ?_⟩
    have hmem : ∀ raw : Option Nat, z_mem OB D DA cl TY PHI sz raw pu T U.heap T U.heap [] 0 := fun raw => ⟨h4, ⟨h5, fun _ => ⟨rfl, rfl⟩, z_fin_rf⟩, fun a t ht => ht, fun q _ hq _ => ⟨hq, rfl⟩, va_S.rf⟩
    cases hr : g_raw g with
    | none =>
      simp only [hr, cond_true] at h
      have hs0 : z_sat OB D DA cl TY PHI sz none pu T U.heap vals nL ((List.range (g_prm g).length).map (fun i => (i, i)), [], (g_prm g).length, z_en 0 (g_prm g), [], [], [], [], (0, 0), 0) T U.heap [] vals ((lg_sl vals ++ List.replicate (nL - (lg_sl vals).length) Slot.unset).toArray) [] := by
        refine ⟨hl, ⟨[], by rw [List.append_nil]⟩, ?_, rfl, fun q hq => ?_, fun q hq => absurd hq List.not_mem_nil, fun q hq => absurd hq List.not_mem_nil, fun q hq => absurd hq List.not_mem_nil, trivial, hmem none⟩
        · have := z_ls_entry (x := []) hcat hn
          rw [List.append_nil, hl] at this
          exact this
        · obtain ⟨j, hj, he⟩ := z_en_mem hq
          obtain ⟨v, e1, e2⟩ := h1 j _ hj (Or.inl hr)
          rw [he, Nat.zero_add]
          exact ⟨v, e1, e2⟩
      cases hgl : z_gls TY cl (List.range (g_prm g).length) (g_loc g) ((List.range (g_prm g).length).map (fun i => (i, i)), [], (g_prm g).length, z_en 0 (g_prm g), [], [], [], [], (0, 0), 0) with
      | none => rw [hgl] at h; cases h
      | some y =>
        obtain ⟨st1, ws1⟩ := y
        simp only [hgl] at h
        cases h
        obtain ⟨x, g1, g2, g3, g4⟩ := z_gls_ok hgl hs0
        have lookup : ∀ (i : Nat) (q : zLoc × zV) (w : Nat), (g_loc g)[i]? = some q → ws[i]? = some w → ∃ v : Value, (vals ++ x)[w]? = some v ∧ z_lv D cl U.heap (vals[q.1.1]?) q.1 v := by
          intro i q w hi hw
          obtain ⟨v, d, m1, m2, m3⟩ := g4 i q w hi hw
          refine ⟨v, m1, ?_⟩
          have hd := List.getElem?_eq_some_iff.mp m2
          obtain ⟨hd1, hd2⟩ := hd
          have hd3 : d = q.1.1 := by simpa using hd2.symm
          have hlt : q.1.1 < vals.length := by rw [hl]; simpa using hd1
          rw [hd3, List.getElem?_append_left hlt] at m3
          exact m3
        refine ⟨vals ++ x, none, fun q => by simp, z_sat_env0 (z_sat_mor g1 (S := []) rfl (fun q hq => ?_) (fun q hq => absurd hq List.not_mem_nil)), hl, fun j v hj => z_app hj, g3, lookup⟩
        obtain ⟨i, hi⟩ := List.getElem?_of_mem hq
        rw [List.getElem?_zip_eq_some] at hi
        obtain ⟨hi1, hi2⟩ := hi
        rw [List.getElem?_map] at hi2
        cases hq2 : (g_loc g)[i]? with
        | none => rw [hq2] at hi2; cases hi2
        | some q2 =>
          rw [hq2] at hi2
          have hi3 : q2.2 = q.2 := by simpa using hi2
          obtain ⟨v, m1, m2⟩ := lookup i q2 q.1 hq2 hi1
          obtain ⟨w0, n1, n2⟩ := h3 q2 (List.mem_of_getElem? hq2)
          have := z_lv_fun m2 n1
          subst this
          exact ⟨v, m1, by rw [← hi3]; exact n2⟩
    | some ci =>
      simp only [hr, cond_true] at h
      obtain ⟨a, r, V, a1, a2, a3, a4, a5, a6⟩ := h2 ci hr
      split at h
      · rename_i r2 c0 ps hr2 hlo hps
        cases h
        rw [a4] at hr2
        cases hr2
        have hl2 : vals.length = ps.length + 1 := by rw [hl, hps]; rfl
        have n1 : (vals ++ [Value.int 0])[ps.length + 1]? = some (.int 0) := by rw [← hl2]; simp
        refine ⟨vals ++ [.int 0], some a, fun q => ?_, ⟨by show (vals ++ [Value.int 0]).length = ps.length + 2; rw [List.length_append, hl2]; rfl, ⟨[], by rw [List.append_nil]⟩, ?_, rfl, fun q hq => ?_, fun q hq => ?_, fun q hq => absurd hq List.not_mem_nil, fun q hq => absurd hq List.not_mem_nil, ⟨⟨a, z_app a1, a2, ⟨a3, Or.inr rfl⟩, ⟨r, V, a4, a5⟩, fun p hp => absurd hp List.not_mem_nil⟩, trivial⟩, hmem (some a)⟩, hl, fun j v hj => z_app hj, by rw [hlo]; rfl, fun i q w hi => by rw [hlo] at hi; simp at hi⟩
        · rw [a1]
          constructor
          · intro hh; cases hh; exact ⟨rfl, rfl⟩
          · rintro ⟨-, hh⟩; cases hh; rfl
        · have := z_ls_entry (x := [.int 0]) hcat hn
          rw [hl2] at this
          exact this
        · rcases List.mem_cons.mp hq with rfl | hq
          · exact ⟨_, n1, 0, rfl, Int.le_refl _, Int.le_refl _⟩
          · obtain ⟨j, hj, he⟩ := z_en_mem hq
            obtain ⟨v, e1, e2⟩ := h1 (j + 1) q.2 (by rw [hps]; simpa using hj) (Or.inr (by omega))
            rw [he, Nat.add_comm]
            exact ⟨v, z_app e1, e2⟩
        · have hq : q ∈ ((List.range r.2.2).filter (fun k => z_zf (FT ci k))).map (fun k => (0, ci, k, ps.length + 1)) := hq
          obtain ⟨k1, hk1, rfl⟩ := List.mem_map.mp hq
          obtain ⟨hk2, hk3⟩ := List.mem_filter.mp hk1
          have hlt := List.mem_range.mp hk2
          refine ⟨a, .int 0, r, z_app a1, n1, a4, hlt, ?_⟩
          obtain ⟨cell, x1, x2, x3, x4⟩ := a5
          refine ⟨cell, x1, x3, ?_⟩
          show cell.slots[D.2 ci k1]? = some (.int 0)
          rw [x4 _ hlt, a6 k1 hlt hk3]
      · cases h
end ZENTRY
end
section
/-! Returns. -/
section ZRETURN
variable {p : Program} {l : Launch} {e : Env} {R : Room} {s : State} {m : MethodId} {below : List Frame} {meth : Method} {c : Code} {cc : ByteArray} {pc : Nat}
variable {OB : Nat → Nat} {D : va_G} {DA : Nat → ClassId} {cl : List vw_C} {FT : Nat → Nat → FieldType} {TY : List zTy} {PHI : List (List Nat)} {sz : Nat} {raw : Option Nat} {pu : Bool} {T0 : zTp} {H0 : Heap} {env0 : List Value} {nL : Nat} {st st' : zS} {T : zTp} {H : Heap} {locs : List Loc} {env : List Value} {ls : Array Slot} {stk : List Value} {g : zSig} {vals : List Value} {ws : List Nat}
/-- what is known of the entry -/
def z_Ent (D : va_G) (cl : List vw_C) (g : zSig) (raw : Option Nat) (pu : Bool) (H0 : Heap) (env0 : List Value) (vals : List Value) (ws : List Nat) : Prop :=
  (∀ q, raw = some q ↔ ((g_raw g).isSome = true ∧ vals[0]? = some (.ref q))) ∧ (g_pur g = true → pu = true) ∧ vals.length = (g_prm g).length ∧ (∀ (j : Nat) (v : Value), vals[j]? = some v → env0[j]? = some v) ∧
  ws.length = (g_loc g).length ∧ (∀ (i : Nat) (q : zLoc × zV) (w : Nat), (g_loc g)[i]? = some q → ws[i]? = some w → ∃ v : Value, env0[w]? = some v ∧ z_lv D cl H0 (vals[q.1.1]?) q.1 v)
theorem z_kn_int {x y : Nat} {n : Int} (h : (z_isi st x && z_isi st y && z_kx (z_R st) x y n) = true) (hs : z_sat OB D DA cl TY PHI sz raw pu T0 H0 env0 nL st T H locs env ls stk) : ∃ vx vy : Int32, env[x]? = some (.int vx) ∧ env[y]? = some (.int vy) ∧ vy.toInt + n ≤ vx.toInt := by
  simp only [Bool.and_eq_true] at h
  obtain ⟨vx, e1⟩ := z_isi_ok h.1.1 hs
  obtain ⟨vy, e2⟩ := z_isi_ok h.1.2 hs
  exact ⟨vx, vy, e1, e2, z_kx_ok hs.2.2.2.2.2.2.2.1 e1 e2 h.2⟩
theorem z_ret_ok {rid : Option Nat} {v : Option Value} (hE : z_Ent D cl g raw pu s.heap env0 vals ws) (h : z_ret TY cl g ws st rid = true) (hs : z_sat OB D DA cl TY PHI sz raw pu T0 s.heap env0 nL st T H locs env ls stk) (hv : match rid, v with | none, none => True | some r, some x => env[r]? = some x | _, _ => False) {t : State} (ht : t.heap = H) :
    (z_C st).1 ≤ (g_mk g).1 ∧ (z_C st).2 ≤ (g_mk g).2 ∧ z_Post OB D DA cl TY PHI sz g T0 vals.toArray s (.returned v) t := by
  obtain ⟨hraw, hpur, hlen, hvals, hwl, hws⟩ := hE
  unfold z_ret at h
  simp only [Bool.and_eq_true] at h
  obtain ⟨⟨⟨hph, hc1⟩, hc2⟩, h⟩ := h
  refine ⟨Nat.le_of_ble_eq_true hc1, Nat.le_of_ble_eq_true hc2, ?_⟩
  split at h
  · rename_i st2 fs hgl
    obtain ⟨x, g1, g2, g3, g4⟩ := z_gls_ok hgl hs
    obtain ⟨m1, ⟨m2, m3, mf⟩, m4, m5, m6⟩ := hs.2.2.2.2.2.2.2.2.2
    rw [z_beq hph] at m4
    obtain ⟨w0, hw0⟩ := hs.2.1
    have hx0 : ∀ (j : Nat) (v : Value), vals[j]? = some v → (env ++ x)[j]? = some v := fun j v hj => z_app (by rw [hw0]; exact z_app (hvals j v hj))
    have hget : ∀ (w : Nat) (v : Value), env0[w]? = some v → (env ++ x)[w]? = some v := fun w v hw => z_app (by rw [hw0]; exact z_app hw)
    obtain ⟨P, hP, hP2⟩ := List.any_eq_true.mp h
    simp only [Bool.and_eq_true] at hP2
    obtain ⟨⟨⟨hA, hR⟩, hN⟩, hL⟩ := hP2
    subst ht
    refine ⟨vals, v, T, rfl, rfl, m1, m2, m4, fun q hq1 hq2 hq3 => m5 q hq1 hq2 (fun hr => ?_), m6.1, fun q hq1 hq2 => m6.2.1 q hq1 hq2, ⟨fun hp => ?_, mf⟩, P, hP, fun q hq => ?_, ?_, fun q hq => ?_, fun i q hh hi hh2 => ?_⟩
    · obtain ⟨y1, y2⟩ := (hraw q).mp hr
      exact hq3 y1 y2
    · obtain ⟨y1, y2⟩ := m3 (hpur hp)
      exact ⟨y1, y2⟩
    · have h1 := List.all_eq_true.mp hA q hq
      split at h1
      · rename_i c0 hc0
        rw [Bool.and_eq_true] at h1
        obtain ⟨w, e1, e2⟩ := z_get_ok g1.2.2.2.2.1 hc0
        have hlt : q.1 < vals.length := by rw [hlen]; exact z_blt h1.2
        have hg := List.getElem?_eq_getElem hlt
        have := hx0 _ _ hg
        rw [e1] at this
        cases this
        exact ⟨_, hg, z_le_ok h1.1 e2⟩
      · cases h1
    · cases hp2 : P.2.1 with
      | none =>
        rw [hp2] at hR
        cases rid with
        | none =>
          cases v with
          | none => trivial
          | some x => exact hv
        | some r => cases hR
      | some c0 =>
        rw [hp2] at hR
        cases rid with
        | none => cases hR
        | some r =>
          cases v with
          | none => exact hv
          | some x2 =>
            have hR : (match z_get (z_V st2) r with
              | some c' => z_le c' c0
              | none => false) = true := hR
            split at hR
            · rename_i c2 hc2
              obtain ⟨w, e1, e2⟩ := z_get_ok g1.2.2.2.2.1 hc2
              have hv : env[r]? = some x2 := hv
              rw [z_app hv] at e1
              cases e1
              exact z_le_ok hR e2
            · cases hR
    · split at hN
      · rename_i st3 ns hgn
        obtain ⟨x3, k1, k2, k3, k4⟩ := z_gls_ok hgn g1
        obtain ⟨i, hi⟩ := List.getElem?_of_mem hq
        have hlt : i < P.2.2.2.length := (List.getElem?_eq_some_iff.mp hi).1
        have h1 := List.all_eq_true.mp hN i (List.mem_range.mpr hlt)
        have hni := List.getElem?_eq_getElem (show i < ns.length by omega)
        rw [hi, hni] at h1
        obtain ⟨v1, d, z1, z2, z3⟩ := k4 i q _ hi hni
        obtain ⟨hd1, hd2⟩ := List.getElem?_eq_some_iff.mp z2
        have hd3 : d = q.1.1 := by simpa using hd2.symm
        have hlt2 : q.1.1 < vals.length := by rw [hlen]; simpa using hd1
        have hg2 := List.getElem?_eq_getElem hlt2
        rw [hd3, z_app (hx0 _ _ hg2), ← hg2] at z3
        refine ⟨v1, z3, ?_⟩
        have h1 : (match z_get (z_V st3) ns[i] with
          | some c => z_le c q.2
          | none => false) = true := h1
        split at h1
        · rename_i c0 hc0
          obtain ⟨w, e1, e2⟩ := z_get_ok k1.2.2.2.2.1 hc0
          rw [z1] at e1
          cases e1
          exact z_le_ok h1 e2
        · cases h1
      · cases hN
    · have hlt : i < (g_loc g).length := (List.getElem?_eq_some_iff.mp hi).1
      have h1 := List.all_eq_true.mp hL i (List.mem_range.mpr hlt)
      have hwi := List.getElem?_eq_getElem (show i < ws.length by omega)
      have hfi := List.getElem?_eq_getElem (show i < fs.length by omega)
      rw [hh2, hwi, hfi] at h1
      simp only [Bool.and_eq_true] at h1
      obtain ⟨⟨h2, h3⟩, h4⟩ := h1
      obtain ⟨v0, y1, y2⟩ := hws i q _ hi hwi
      obtain ⟨v1, d, z1, z2, z3⟩ := g4 i q _ hi hfi
      obtain ⟨hd1, hd2⟩ := List.getElem?_eq_some_iff.mp z2
      have hd3 : d = q.1.1 := by simpa using hd2.symm
      have hlt2 : q.1.1 < vals.length := by rw [hlen]; simpa using hd1
      have hg2 := List.getElem?_eq_getElem hlt2
      rw [hd3, hx0 _ _ hg2, ← hg2] at z3
      refine ⟨v0, v1, y2, z3, ?_, fun k hk => ?_, fun k hk => ?_⟩
      · split at h2
        · rename_i c0 hc0
          obtain ⟨w, e1, e2⟩ := z_get_ok g1.2.2.2.2.1 hc0
          rw [z1] at e1
          cases e1
          exact z_le_ok h2 e2
        · cases h2
      · rw [hk] at h3
        obtain ⟨vx, vy, n1, n2, n3⟩ := z_kn_int h3 g1
        rw [z1] at n1
        rw [hget _ _ y1] at n2
        cases n1; cases n2
        exact ⟨vy, vx, rfl, rfl, n3⟩
      · rw [hk] at h4
        simp only [Bool.and_eq_true] at h4
        have h5 : (z_isi st2 ws[i] && z_isi st2 fs[i] && z_kx (z_R st2) ws[i] fs[i] (-k)) = true := by
          simp only [Bool.and_eq_true]
          exact ⟨⟨h4.1.2, h4.1.1⟩, h4.2⟩
        obtain ⟨vx, vy, n1, n2, n3⟩ := z_kn_int h5 g1
        rw [z1] at n2
        rw [hget _ _ y1] at n1
        cases n1; cases n2
        exact ⟨vx, vy, rfl, rfl, by omega⟩
  · cases h
/-- a return with an answer -/
def z_iret (TY : List zTy) (cl : List vw_C) (g : zSig) (ws : List Nat) (ret : Option FieldType) (st : zS) : Bool := match z_S st, ret with
  | [r], some .int => z_isi st r && z_ret TY cl g ws st (some r)
  | [r], some .boolean => (match z_get (z_V st) r with
    | some (.inl a) => z_ile 0 a.1 && z_ile a.2 1
    | _ => false) && z_ret TY cl g ws st (some r)
  | _, _ => false
theorem z_r_vret {good : Nat → zS → Prop} (hg : z_Good p l e R s m vals.toArray below meth c (MQ below (z_Post OB D DA cl TY PHI sz g T0) vals.toArray s (g_mk g).1 (g_mk g).2 (fun q => sz ≤ q)) OB D DA cl TY PHI sz raw pu T0 s.heap env0 nL good) (hx : p.tables.exec = Jvm.exec) (hb : c.code = cc) (hr : meth.sig.returnType = none) (hlocks : meth.locks = false) (hE : z_Ent D cl g raw pu s.heap env0 vals ws) (hd : decode cc pc = .ok (.return_, 1)) (hS : z_S st = []) (h : z_ret TY cl g ws st none = true) : good pc st := by
  refine (hg _ _).mpr fun T H locs env ls stk hs => ?_
  have hk := hs.2.2.2.1
  rw [hS] at hk
  have hk : stk = [] := hk
  subst hk
  obtain ⟨c1, c2, -⟩ := z_ret_ok (v := none) (t := { s with heap := H }) hE h hs trivial rfl
  refine W.widen c1 c2 (W.vret hx hb hr (fun t ht _ => (z_ret_ok (v := none) hE h hs trivial ht).2.2) (fun q hq => ?_) hd hlocks)
  exact hs.2.2.2.2.2.2.2.2.2.2.2.2.2.2.2 q hq
theorem z_r_iret {good : Nat → zS → Prop} {ret : Option FieldType} (hg : z_Good p l e R s m vals.toArray below meth c (MQ below (z_Post OB D DA cl TY PHI sz g T0) vals.toArray s (g_mk g).1 (g_mk g).2 (fun q => sz ≤ q)) OB D DA cl TY PHI sz raw pu T0 s.heap env0 nL good) (hx : p.tables.exec = Jvm.exec) (hb : c.code = cc) (hr : meth.sig.returnType = ret) (hlocks : meth.locks = false) (hE : z_Ent D cl g raw pu s.heap env0 vals ws) (hd : decode cc pc = .ok (.ireturn, 1)) (h : z_iret TY cl g ws ret st = true) : good pc st := by
  refine (hg _ _).mpr fun T H locs env ls stk hs => ?_
  unfold z_iret at h
  split at h
  · rename_i r hS
    rw [Bool.and_eq_true] at h
    obtain ⟨v, k, rfl, e1, hk⟩ := z_stk_cons hS hs.2.2.2.1
    have hk : k = [] := hk
    subst hk
    obtain ⟨x, e2⟩ := z_isi_ok h.1 hs
    rw [e1] at e2
    cases e2
    obtain ⟨c1, c2, -⟩ := z_ret_ok (v := some (.int x)) (t := { s with heap := H }) hE h.2 hs e1 rfl
    refine W.widen c1 c2 (W.iret hx hb hr (fun t ht _ => (z_ret_ok (v := some (.int x)) hE h.2 hs e1 ht).2.2) (fun q hq => ?_) hd hlocks)
    exact hs.2.2.2.2.2.2.2.2.2.2.2.2.2.2.2 q hq
  · rename_i r hS
    rw [Bool.and_eq_true] at h
    obtain ⟨v, k, rfl, e1, hk⟩ := z_stk_cons hS hs.2.2.2.1
    have hk : k = [] := hk
    subst hk
    obtain ⟨h1, h2⟩ := h
    split at h1
    · rename_i a ha
      rw [Bool.and_eq_true] at h1
      obtain ⟨w, e2, hw⟩ := z_get_ok hs.2.2.2.2.1 ha
      rw [e1] at e2
      cases e2
      obtain ⟨hn, -⟩ := z_fit_ok (ty := .boolean) (c := .inl a) (by unfold z_fit; rw [Bool.and_eq_true]; exact h1) hw
      obtain ⟨x, rfl, -⟩ := hw
      obtain ⟨c1, c2, -⟩ := z_ret_ok (v := some (.int x)) (t := { s with heap := H }) hE h2 hs e1 rfl
      refine W.widen c1 c2 (W.zret hx hb hr hn (fun t ht _ => (z_ret_ok (v := some (.int x)) hE h2 hs e1 ht).2.2) (fun q hq => ?_) hd hlocks)
      exact hs.2.2.2.2.2.2.2.2.2.2.2.2.2.2.2 q hq
    · cases h1
  · cases h
end ZRETURN
end
