/-! Fields. -/
def z_ek : Nat → FieldType
  | 0 => .int
  | 1 => .byte
  | _ => .long
/-- what the tables say of the classes and of a class's own places -/
def z_St (Ts : List Cond) (cl : List vw_C) (FT : Nat → Nat → FieldType) (own : String) (FL : List (Nat × Nat × Nat)) : Prop :=
  (∀ ci r, cl[ci]? = some r → (∀ w ∈ u_ws r.1 r.2.1 r.2.2, w ∈ Ts) ∧ (∀ k, k < r.2.2 → parseFieldDescriptor (r.2.1 k).2.2.1 = some (FT ci k)) ∧ (∀ a, a < r.2.2 → ∀ b, b < r.2.2 → a ≠ b → (r.2.1 a).2.1 ≠ (r.2.1 b).2.1) ∧ (∀ k, k < r.2.2 → (r.2.1 k).1 = r.1)) ∧
  (∀ q ∈ FL, ∃ r, cl[q.2.1]? = some r ∧ q.2.2 < r.2.2 ∧ Cond.fieldLink own q.1 (r.2.1 q.2.2).1 (r.2.1 q.2.2).2.1 (r.2.1 q.2.2).2.2.1 ∈ Ts)
def z_Dy (s : State) (m : MethodId) (args : Array Value) (Ts : List Cond) (own : String) (D : va_G) (cl : List vw_C) (DA : Nat → ClassId) (tys : List (ClassId × FieldType)) : Prop :=
  (∀ w ∈ Ts, w.before args s = true) ∧ s.vm.findClass own = some m.cls ∧ va_K D cl tys s ∧ ∀ k, k < 3 → tys[k]? = some (DA k, z_ek k)
def z_fit (ty : FieldType) (c : zV) : Bool := match ty, c with
  | .int, .inl _ => true
  | .boolean, .inl r => z_ile 0 r.1 && z_ile r.2 1
  | .object _, .inr (.inl _) => true
  | .array _, .inr (.inl _) => true
  | _, _ => false
theorem z_fit_ok {OB : Nat → Nat} {T : zTp} {ty : FieldType} {c : zV} {v : Value} (h : z_fit ty c = true) (hv : z_v OB T c v) : narrow ty v = v ∧ fits ty v = true := by
  cases ty <;> rcases c with r | t | k <;> simp only [z_fit, Bool.false_eq_true, Bool.and_eq_true] at h
  · obtain ⟨x, rfl, h1, h2⟩ := hv
    exact ⟨rfl, rfl⟩
  · obtain ⟨x, rfl, h1, h2⟩ := hv
    have l1 := z_ile_ok h.1
    have l2 := z_ile_ok h.2
    have hx : x.toInt = 0 ∨ x.toInt = 1 := by omega
    rcases hx with hx | hx
    · have : x = 0 := z_int0 hx
      subst this
      exact ⟨rfl, rfl⟩
    · have : x = 1 := Int32.toInt_inj.mp (by rw [hx]; rfl)
      subst this
      exact ⟨rfl, rfl⟩
  · obtain ⟨a, rfl, h1⟩ := hv
    exact ⟨rfl, rfl⟩
  · obtain ⟨a, rfl, h1⟩ := hv
    exact ⟨rfl, rfl⟩
/-- a cell whose slot is set is still of its class -/
theorem z_ob_set {a : Nat} {cC : ClassId} {N : Nat} {iS : Nat → Nat} {H H1 : Heap} {V : Nat → Value} {cell : Cell} {j : Nat} {v : Value} (h : t_OB a cC N iS H V) (hc : H[a]? = some cell) (h1 : H1[a]? = some (cell.setSlot j v)) : ∃ V', t_OB a cC N iS H1 V' := by
  obtain ⟨cell2, q1, q2, q3, q4⟩ := h
  rw [hc] at q1
  cases q1
  refine ⟨fun k => if iS k = j then v else V k, _, h1, q2, q3, fun k hk => ?_⟩
  show (cell.setSlot j v).slots[iS k]? = some (if iS k = j then v else V k)
  by_cases e : iS k = j
  · rw [if_pos e, e]
    exact Cell.slots_setSlot_self _ (k2_hasslot (by rw [← e]; exact q4 k hk))
  · rw [if_neg e, slot_ne _ _ (fun h => e h.symm)]
    exact q4 k hk
section ZFIELDS
variable {p : Program} {l : Launch} {e : Env} {R : Room} {s : State} {m : MethodId} {args : Array Value} {below : List Frame} {meth : Method} {c : Code} {Q : State → Prop} {cc : ByteArray} {pc : Nat}
variable {OB : Nat → Nat} {D : va_G} {DA : Nat → ClassId} {cl : List vw_C} {TY : List zTy} {PHI : List (List Nat)} {sz : Nat} {raw : Option Nat} {pu : Bool} {T0 : zTp} {H0 : Heap} {env0 : List Value} {nL : Nat} {st st' : zS} {good : Nat → zS → Prop}
variable {Ts : List Cond} {own : String} {FT : Nat → Nat → FieldType} {FL : List (Nat × Nat × Nat)} {tys : List (ClassId × FieldType)}
variable {T : zTp} {H : Heap} {locs : List Loc} {env : List Value} {ls : Array Slot} {stk : List Value} {cells slots : Nat} {rest : List Value}
theorem z_apart {ci : Nat} {r : vw_C} (hS : z_St Ts cl FT own FL) (hD : z_Dy s m args Ts own D cl DA tys) (hc : cl[ci]? = some r) : ∀ x y, x < r.2.2 → y < r.2.2 → x ≠ y → D.2 ci x ≠ D.2 ci y :=
  va_apart (own := own) hD.1 (hS.1 ci r hc).1 (FT ci) (hS.1 ci r hc).2.1 (hS.1 ci r hc).2.2.1 hD.2.2.1 hc
/-- a field is read, by its slot -/
theorem z_getrow (hx : p.tables.exec = Jvm.exec) (hb : c.code = cc) (hS : z_St Ts cl FT own FL) (hD : z_Dy s m args Ts own D cl DA tys) {q : Nat × Nat × Nat} (hq : q ∈ FL) {a : Nat} {v : Value} (hv : z_sl H a (D.2 q.2.1 q.2.2) v) (hd : decode cc pc = .ok (.getfield q.1, 3))
    (kk : W p l e R s m args below meth c H locs cells slots Q (F0 m (pc + 3) ls (v :: rest))) : W p l e R s m args below meth c H locs cells slots Q (F0 m pc ls (.ref a :: rest)) := by
  obtain ⟨r, hc, hk, hl⟩ := hS.2 q hq
  obtain ⟨hts, hown, hK, -⟩ := hD
  obtain ⟨hSl, hfc, kC, hkC, hkind⟩ := hK.1 _ _ hc
  obtain ⟨cf, kf, fi, f, hi, hsl⟩ := hSl q.2.2 hk
  obtain ⟨cell, g1, g2, g3⟩ := hv
  exact W.getf hx hb hown (hts _ hl) hi (u_facts hfc hkC (u_lays hts (hS.1 _ _ hc).1 hk) hi).1 g1 (by rw [g2]; exact fun h => by cases h) (v := v) (by rw [hsl]; exact g3) rfl rfl hd kk
/-- a field is set -/
theorem z_putrow (hx : p.tables.exec = Jvm.exec) (hb : c.code = cc) (hS : z_St Ts cl FT own FL) (hD : z_Dy s m args Ts own D cl DA tys) {q : Nat × Nat × Nat} (hq : q ∈ FL) {r : vw_C} (hc : cl[q.2.1]? = some r) {a : Nat} {V : Nat → Value} (ho : t_OB a (D.1 q.2.1) r.2.2 (D.2 q.2.1) H V) (hfin : (r.2.1 q.2.2).2.2.2 = false ∨ (meth.name = "<init>" ∧ r.1 = own)) {v : Value} (hn : narrow (FT q.2.1 q.2.2) v = v ∧ fits (FT q.2.1 q.2.2) v = true) (hd : decode cc pc = .ok (.putfield q.1, 3))
    (kk : ∀ (H1 : Heap) (cell : Cell), H[a]? = some cell → H1[a]? = some (cell.setSlot (D.2 q.2.1 q.2.2) v) → H1.size = H.size → (∀ b : Nat, b ≠ a → H1[b]? = H[b]?) → t_OB a (D.1 q.2.1) r.2.2 (D.2 q.2.1) H1 (updV V q.2.2 v) → W p l e R s m args below meth c H1 (locs ++ [⟨a, D.2 q.2.1 q.2.2⟩]) cells slots Q (F0 m (pc + 3) ls rest)) : W p l e R s m args below meth c H locs cells slots Q (F0 m pc ls (v :: .ref a :: rest)) := by
  have hap := z_apart hS hD hc
  obtain ⟨r2, hc2, hk, hl⟩ := hS.2 q hq
  rw [hc] at hc2
  cases hc2
  obtain ⟨hts, hown, hK, -⟩ := hD
  obtain ⟨hSl, hfc, kC, hkC, hkind⟩ := hK.1 _ _ hc
  obtain ⟨cf, kf, fi, f, hi, hsl⟩ := hSl q.2.2 hk
  obtain ⟨cell, q1, q2, q3, q4⟩ := ho
  have hlay := hts _ ((hS.1 _ _ hc).1 _ (u_in_lay hk))
  have hdt := (hS.1 _ _ hc).2.1 _ hk
  have hst := (u_facts hfc hkC (u_lays hts (hS.1 _ _ hc).1 hk) hi).1
  have fin : ∀ H', H'[a]? = some (cell.setSlot f.slot v) → t_OB a (D.1 q.2.1) r.2.2 (D.2 q.2.1) H' (updV V q.2.2 v) := by
    intro H' e1
    rw [hsl] at e1
    exact ⟨_, e1, q2, q3, t_set q4 hap hk v⟩
  cases hf : (r.2.1 q.2.2).2.2.2 with
  | false =>
    unfold u_lay at hlay
    rw [if_neg (by rw [hf]; decide)] at hlay
    have h6 := u_store hfc hkC hkind hlay hi hdt hn.1 hn.2
    refine W.putK hx hb (f := f) ⟨hown, hts _ hl, ⟨_, _, _, hi⟩, hst⟩ (by rw [q2]; exact h6) q1 q3 (by rw [hsl]; exact k2_hasslot (q4 _ hk)) rfl rfl hd fun H' e1 e2 e3 => ?_
    have := kk H' cell q1 (by rw [← hsl]; exact e1) e2 e3 (fin H' e1)
    rwa [← hsl] at this
  | true =>
    unfold u_lay at hlay
    rw [if_pos hf] at hlay
    rcases hfin with h | ⟨hin, hcl⟩
    · rw [hf] at h; cases h
    · have hcf : m.cls = cf := by
        obtain ⟨_, _, c', _, _, _, -, -, hf', -, -, -, hown2, -⟩ := Cond.laysFinal_spec hlay
        have e1 : c' = cf := by have := hi.symm.trans hf'; simp at this; exact this.1.symm
        rw [(hS.1 _ _ hc).2.2.2 _ hk, hcl] at hown2
        rw [← e1]; exact Option.some.inj (hown.symm.trans hown2)
      have h6 := u_fits hfc hkC hkind (Or.inr hlay) hi hdt hn.1 hn.2
      refine W.putFinK hx hb hown (hts _ hl) hi hst hcf hin (by rw [q2]; exact h6) q1 q3 (by rw [hsl]; exact k2_hasslot (q4 _ hk)) rfl rfl hd fun H' e1 e2 e3 => ?_
      have := kk H' cell q1 (by rw [← hsl]; exact e1) e2 e3 (fin H' e1)
      rwa [← hsl] at this
end ZFIELDS
