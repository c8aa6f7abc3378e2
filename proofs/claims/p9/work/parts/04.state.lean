/-! Abstract values, types of cells, abstract states, and what they say of the machine. -/
abbrev zV : Type := zR ⊕ (Nat ⊕ Nat)
abbrev zTp : Type := Nat → Option Nat
/-- an int in a range; a reference to a cell of a type; a known address (0: any long) -/
def z_v (OB : Nat → Nat) (T : zTp) (c : zV) (v : Value) : Prop := match c with
  | .inl r => ∃ x : Int32, v = .int x ∧ z_in r x
  | .inr (.inl t) => ∃ a : Nat, v = .ref a ∧ T a = some t
  | .inr (.inr 0) => ∃ x : Int64, v = .long x
  | .inr (.inr (k + 1)) => v = .ref (OB k)
def z_ile (a b : Int) : Bool := decide (a ≤ b)
theorem z_ile_ok {a b : Int} (h : z_ile a b = true) : a ≤ b := of_decide_eq_true h
theorem z_beq {a b : Nat} (h : Nat.beq a b = true) : a = b := Nat.eq_of_beq_eq_true h
def z_le (c d : zV) : Bool := match c, d with
  | .inl r, .inl q => z_ile q.1 r.1 && z_ile r.2 q.2
  | .inr (.inl t), .inr (.inl u) => Nat.beq t u
  | .inr (.inr k), .inr (.inr j) => Nat.beq k j
  | _, _ => false
theorem z_in_le {r q : zR} {x : Int32} (h1 : q.1 ≤ r.1) (h2 : r.2 ≤ q.2) (h : z_in r x) : z_in q x := ⟨Int.le_trans h1 h.1, Int.le_trans h.2 h2⟩
theorem z_le_ok {OB : Nat → Nat} {T : zTp} {c d : zV} {v : Value} (h : z_le c d = true) (hv : z_v OB T c v) : z_v OB T d v := by
  rcases c with r | t | k <;> rcases d with q | u | j <;> simp only [z_le, Bool.and_eq_true, Bool.false_eq_true] at h
  · obtain ⟨x, e, hx⟩ := hv
    exact ⟨x, e, z_in_le (z_ile_ok h.1) (z_ile_ok h.2) hx⟩
  · rw [← z_beq h]; exact hv
  · rw [← z_beq h]; exact hv
/-- an object: the place of its class, its fields; an array: the kind of its entries, its least and its greatest length, what stands in which places -/
abbrev zTy : Type := (Nat × List zV) ⊕ (Nat × (Nat × Nat) × List ((Nat × Nat) × zV))
def z_cell (OB : Nat → Nat) (D : va_G) (DA : Nat → ClassId) (cl : List vw_C) (T : zTp) (H : Heap) (a : Nat) (ty : zTy) : Prop := match ty with
  | .inl o => ∃ r, cl[o.1]? = some r ∧ o.2.length = r.2.2 ∧ ∃ V : Nat → Value, t_OB a (D.1 o.1) r.2.2 (D.2 o.1) H V ∧ ∀ k c, o.2[k]? = some c → z_v OB T c (V k)
  | .inr q => ∃ (n : Nat) (f : Nat → Value), H[a]? = some (arrV (DA q.1) n f) ∧ q.2.1.1 ≤ n ∧ n ≤ q.2.1.2 ∧ n < 2147483648 ∧ ∀ g ∈ q.2.2, ∀ j, j < n → g.1.1 ≤ j → j ≤ g.1.2 → z_v OB T g.2 (f j)
/-- a slot of a cell -/
def z_sl (H : Heap) (a k : Nat) (w : Value) : Prop := ∃ cell : Cell, H[a]? = some cell ∧ cell.vm = .none ∧ cell.slots[k]? = some w
abbrev zS : Type := List (Nat × Nat) × List Nat × Nat × List (Nat × zV) × List (Nat × Nat × Nat × Nat) × List (Nat × Nat × Nat) × List (Nat × Nat × Int) × List (Nat × Nat) × (Nat × Nat) × Nat
abbrev z_L (st : zS) := st.1
abbrev z_S (st : zS) := st.2.1
abbrev z_n (st : zS) := st.2.2.1
abbrev z_V (st : zS) := st.2.2.2.1
abbrev z_F (st : zS) := st.2.2.2.2.1
abbrev z_E (st : zS) := st.2.2.2.2.2.1
abbrev z_R (st : zS) := st.2.2.2.2.2.2.1
abbrev z_X (st : zS) := st.2.2.2.2.2.2.2.1
abbrev z_C (st : zS) := st.2.2.2.2.2.2.2.2.1
abbrev z_ph (st : zS) := st.2.2.2.2.2.2.2.2.2
def z_ls (nL : Nat) (ls : Array Slot) (env : List Value) (L : List (Nat × Nat)) : Prop := ∃ lv, lv_has ls nL lv ∧ (∀ q ∈ lv, q.2.category = 1) ∧ ∀ q ∈ L, ∃ v, env[q.2]? = some v ∧ (q.1, v) ∈ lv
def z_stk (env : List Value) : List Nat → List Value → Prop
  | [], k => k = []
  | i :: S, k => ∃ v k', k = v :: k' ∧ env[i]? = some v ∧ z_stk env S k'
def z_fv (OB : Nat → Nat) (T : zTp) (env : List Value) (V : List (Nat × zV)) : Prop := ∀ q ∈ V, ∃ v, env[q.1]? = some v ∧ z_v OB T q.2 v
def z_ff (D : va_G) (cl : List vw_C) (H : Heap) (env : List Value) (F : List (Nat × Nat × Nat × Nat)) : Prop := ∀ q ∈ F, ∃ a w r, env[q.1]? = some (.ref a) ∧ env[q.2.2.2]? = some w ∧ cl[q.2.1]? = some r ∧ q.2.2.1 < r.2.2 ∧ z_sl H a (D.2 q.2.1 q.2.2.1) w
def z_fe (H : Heap) (env : List Value) (E : List (Nat × Nat × Nat)) : Prop := ∀ q ∈ E, ∃ a x w, env[q.1]? = some (.ref a) ∧ env[q.2.1]? = some (.int x) ∧ 0 ≤ x.toInt ∧ env[q.2.2]? = some w ∧ z_sl H a x.toInt.toNat w
def z_fr (env : List Value) (R : List (Nat × Nat × Int)) : Prop := ∀ q ∈ R, ∃ x y, env[q.1]? = some (.int y) ∧ env[q.2.1]? = some (.int x) ∧ x.toInt + q.2.2 ≤ y.toInt
def z_fx (D : va_G) (cl : List vw_C) (T : zTp) (sz : Nat) (n0 : Nat) (raw : Option Nat) (H : Heap) (env : List Value) : List (Nat × Nat) → Prop
  | [] => True
  | q :: X => (∃ a, env[q.1]? = some (.ref a) ∧ T a = none ∧ (sz ≤ a ∧ (n0 ≤ a ∨ raw = some a)) ∧ (∃ r V, cl[q.2]? = some r ∧ t_OB a (D.1 q.2) r.2.2 (D.2 q.2) H V) ∧ ∀ p ∈ X, env[p.1]? ≠ some (.ref a)) ∧ z_fx D cl T sz n0 raw H env X
theorem z_app {env w : List Value} {i : Nat} {v : Value} (h : env[i]? = some v) : (env ++ w)[i]? = some v := by
  rw [List.getElem?_append_left (List.getElem?_eq_some_iff.mp h).1]; exact h
theorem z_ls_app {nL : Nat} {ls : Array Slot} {env w : List Value} {L : List (Nat × Nat)} (h : z_ls nL ls env L) : z_ls nL ls (env ++ w) L := by
  obtain ⟨lv, h1, h2, h3⟩ := h
  exact ⟨lv, h1, h2, fun q hq => by obtain ⟨v, e, m⟩ := h3 q hq; exact ⟨v, z_app e, m⟩⟩
theorem z_stk_app {env w : List Value} : ∀ {S : List Nat} {k : List Value}, z_stk env S k → z_stk (env ++ w) S k
  | [], _, h => h
  | _ :: _, _, ⟨v, k', e, h1, h2⟩ => ⟨v, k', e, z_app h1, z_stk_app h2⟩
theorem z_fv_app {OB : Nat → Nat} {T : zTp} {env w : List Value} {V : List (Nat × zV)} (h : z_fv OB T env V) : z_fv OB T (env ++ w) V := fun q hq => by
  obtain ⟨v, e, m⟩ := h q hq; exact ⟨v, z_app e, m⟩
theorem z_ff_app {D : va_G} {cl : List vw_C} {H : Heap} {env w : List Value} {F : List (Nat × Nat × Nat × Nat)} (h : z_ff D cl H env F) : z_ff D cl H (env ++ w) F := fun q hq => by
  obtain ⟨a, v, r, e1, e2, e3⟩ := h q hq; exact ⟨a, v, r, z_app e1, z_app e2, e3⟩
theorem z_fe_app {H : Heap} {env w : List Value} {E : List (Nat × Nat × Nat)} (h : z_fe H env E) : z_fe H (env ++ w) E := fun q hq => by
  obtain ⟨a, x, v, e1, e2, e3, e4, e5⟩ := h q hq; exact ⟨a, x, v, z_app e1, z_app e2, e3, z_app e4, e5⟩
theorem z_fr_app {env w : List Value} {R : List (Nat × Nat × Int)} (h : z_fr env R) : z_fr (env ++ w) R := fun q hq => by
  obtain ⟨x, y, e1, e2, e3⟩ := h q hq; exact ⟨x, y, z_app e1, z_app e2, e3⟩
theorem z_fx_in {D : va_G} {cl : List vw_C} {T : zTp} {sz n0 : Nat} {raw : Option Nat} {H : Heap} {env : List Value} : ∀ {X : List (Nat × Nat)}, z_fx D cl T sz n0 raw H env X → ∀ p ∈ X, ∃ a, env[p.1]? = some (.ref a) ∧ T a = none ∧ (sz ≤ a ∧ (n0 ≤ a ∨ raw = some a)) ∧ ∃ r V, cl[p.2]? = some r ∧ t_OB a (D.1 p.2) r.2.2 (D.2 p.2) H V
  | [], _, p, hp => absurd hp List.not_mem_nil
  | _ :: _, ⟨⟨a, h1, h2, h3, h4, _⟩, hr⟩, p, hp => by
    rcases List.mem_cons.mp hp with rfl | hp
    · exact ⟨a, h1, h2, h3, h4⟩
    · exact z_fx_in hr p hp
theorem z_fx_app {D : va_G} {cl : List vw_C} {T : zTp} {sz n0 : Nat} {raw : Option Nat} {H : Heap} {env w : List Value} : ∀ {X : List (Nat × Nat)}, z_fx D cl T sz n0 raw H env X → z_fx D cl T sz n0 raw H (env ++ w) X
  | [], h => h
  | _ :: _, ⟨⟨a, h1, h2, h3, h4, h5⟩, hr⟩ => by
    refine ⟨⟨a, z_app h1, h2, h3, h4, fun p hp => ?_⟩, z_fx_app hr⟩
    obtain ⟨b, hb, _⟩ := z_fx_in hr p hp
    rw [z_app hb, ← hb]
    exact h5 p hp
/-- the newest entry -/
def z_get : List (Nat × zV) → Nat → Option zV
  | [], _ => none
  | q :: V, i => cond (Nat.beq q.1 i) (some q.2) (z_get V i)
theorem z_get_mem : ∀ {V : List (Nat × zV)} {i : Nat} {c : zV}, z_get V i = some c → (i, c) ∈ V
  | [], _, _, h => by simp [z_get] at h
  | q :: V, i, c, h => by
    unfold z_get at h
    cases hb : Nat.beq q.1 i with
    | true =>
      rw [hb] at h
      cases h
      rw [← z_beq hb]
      exact List.mem_cons_self
    | false =>
      rw [hb] at h
      exact List.mem_cons_of_mem _ (z_get_mem h)
theorem z_get_ok {OB : Nat → Nat} {T : zTp} {env : List Value} {V : List (Nat × zV)} {i : Nat} {c : zV} (h : z_fv OB T env V) (e : z_get V i = some c) : ∃ v, env[i]? = some v ∧ z_v OB T c v := h _ (z_get_mem e)
def z_loc : List (Nat × Nat) → Nat → Option Nat
  | [], _ => none
  | q :: L, i => cond (Nat.beq q.1 i) (some q.2) (z_loc L i)
theorem z_loc_mem : ∀ {L : List (Nat × Nat)} {i d : Nat}, z_loc L i = some d → (i, d) ∈ L
  | [], _, _, h => by simp [z_loc] at h
  | q :: L, i, d, h => by
    unfold z_loc at h
    cases hb : Nat.beq q.1 i with
    | true =>
      rw [hb] at h
      cases h
      rw [← z_beq hb]
      exact List.mem_cons_self
    | false =>
      rw [hb] at h
      exact List.mem_cons_of_mem _ (z_loc_mem h)
/-- a lower bound of the difference y - x, by so many steps -/
def z_lbs (R0 : List (Nat × Nat × Int)) : Nat → Nat → Nat → Option Int
  | 0, y, x => cond (Nat.beq y x) (some 0) none
  | f + 1, y, x => cond (Nat.beq y x) (some 0) (R0.findSome? (fun q => cond (Nat.beq q.1 y) ((z_lbs R0 f q.2.1 x).map (fun c => c + q.2.2)) none))
theorem z_lbs_ok {env : List Value} {R : List (Nat × Nat × Int)} (h : z_fr env R) : ∀ {f y x : Nat} {c : Int} {vy : Int32}, z_lbs R f y x = some c → env[y]? = some (.int vy) → ∃ vx : Int32, env[x]? = some (.int vx) ∧ vx.toInt + c ≤ vy.toInt := by
  intro f
  induction f with
  | zero =>
    intro y x c vy e hy
    unfold z_lbs at e
    cases hb : Nat.beq y x with
    | true => rw [hb] at e; cases e; rw [← z_beq hb]; exact ⟨vy, hy, by omega⟩
    | false => rw [hb] at e; cases e
  | succ f ih =>
    intro y x c vy e hy
    unfold z_lbs at e
    cases hb : Nat.beq y x with
    | true => rw [hb] at e; cases e; rw [← z_beq hb]; exact ⟨vy, hy, by omega⟩
    | false =>
      rw [hb] at e
      obtain ⟨q, hq, hq2⟩ := List.exists_of_findSome?_eq_some e
      cases hb2 : Nat.beq q.1 y with
      | false => rw [hb2] at hq2; cases hq2
      | true =>
        rw [hb2] at hq2
        obtain ⟨xx, yy, e1, e2, e3⟩ := h q hq
        rw [z_beq hb2, hy] at e1
        cases e1
        cases hr : z_lbs R f q.2.1 x with
        | none => rw [hr] at hq2; cases hq2
        | some c2 =>
          rw [hr] at hq2
          have hc : c = c2 + q.2.2 := (Option.some.inj hq2).symm
          obtain ⟨vx, h1, h2⟩ := ih hr e2
          exact ⟨vx, h1, by omega⟩
