/-! The entry of a method; its returns. -/
section ZENTRY
variable {p : Program} {l : Launch} {e : Env} {R : Room} {s : State} {m : MethodId} {args : Array Value} {below : List Frame} {meth : Method} {c : Code} {Q : State → Prop} {cc : ByteArray} {pc : Nat}
variable {OB : Nat → Nat} {D : va_G} {DA : Nat → ClassId} {cl : List vw_C} {FT : Nat → Nat → FieldType} {TY : List zTy} {PHI : List (List Nat)} {sz : Nat} {raw : Option Nat} {pu : Bool} {T0 : zTp} {H0 : Heap} {env0 : List Value} {nL : Nat} {st st' : zS} {T : zTp} {H : Heap} {locs : List Loc} {env : List Value} {ls : Array Slot} {stk : List Value} {KX : State → Heap → Prop} {g : zSig}
theorem z_c1_ok {k : zV} {v : Value} (h : z_c1 k = true) (hv : z_v OB T k v) : v.category = 1 := by
  match k, h, hv with
  | .inl r, _, ⟨x, e, _⟩ => rw [e]; rfl
  | .inr (.inl t), _, ⟨a, e, _⟩ => rw [e]; rfl
  | .inr (.inr (k + 1)), _, e => 
    have e : v = .ref (OB k) := e
    rw [e]; rfl
theorem z_args1 : ∀ (vs : List Value) (i : Nat), (∀ v ∈ vs, v.category = 1) → (lg_sl vs).length = vs.length ∧ (∀ q ∈ lv_args i vs, q.2.category = 1) ∧ ∀ j v, vs[j]? = some v → (i + j, v) ∈ lv_args i vs
  | [], i, _ => ⟨rfl, fun q h => absurd h List.not_mem_nil, fun j v h => by simp at h⟩
  | x :: vs, i, h => by
    have hx := h x List.mem_cons_self
    have hne : ¬ x.category = 2 := by omega
    obtain ⟨h1, h2, h3⟩ := z_args1 vs (i + 1) (fun v hv => h v (List.mem_cons_of_mem _ hv))
    have e1 : lg_sl (x :: vs) = [.val x] ++ lg_sl vs := by
      unfold lg_sl
      rw [List.flatMap_cons, if_neg hne]
    have e2 : lv_args i (x :: vs) = (i, x) :: lv_args (i + 1) vs := by
      show (i, x) :: lv_args (if x.category = 2 then i + 2 else i + 1) vs = _
      rw [if_neg hne]
    refine ⟨by rw [e1]; simp [h1], fun q hq => ?_, fun j v hj => ?_⟩
    · rw [e2] at hq
      rcases List.mem_cons.mp hq with rfl | hq
      · exact hx
      · exact h2 q hq
    · rw [e2]
      cases j with
      | zero =>
        have : x = v := by simpa using hj
        rw [this]
        exact List.mem_cons_self
      | succ j =>
        have := h3 j v (by simpa using hj)
        rw [show i + (j + 1) = i + 1 + j by omega]
        exact List.mem_cons_of_mem _ this
theorem z_ls_entry {vals : List Value} (h1 : ∀ v ∈ vals, v.category = 1) (hn : vals.length ≤ nL) {x : List Value} : z_ls nL ((lg_sl vals ++ List.replicate (nL - (lg_sl vals).length) Slot.unset).toArray) (vals ++ x) ((List.range vals.length).map (fun i => (i, i))) := by
  obtain ⟨a1, a2, a3⟩ := z_args1 vals 0 h1
  refine ⟨_, lv_entry vals (by rw [a1]; exact hn), a2, fun q hq => ?_⟩
  obtain ⟨i, hi, rfl⟩ := List.mem_map.mp hq
  have hlt := List.mem_range.mp hi
  have hg := List.getElem?_eq_getElem hlt
  refine ⟨_, z_app hg, ?_⟩
  have := a3 i _ hg
  rwa [Nat.zero_add] at this
theorem z_vals1 {vals : List Value} (hl : vals.length = (g_prm g).length) (hc : (g_prm g).all z_c1 = true) (h1 : ∀ j c, (g_prm g)[j]? = some c → (g_raw g = none ∨ j ≠ 0) → ∃ v, vals[j]? = some v ∧ z_v OB T c v) (h2 : ∀ ci, g_raw g = some ci → ∃ a : Nat, vals[0]? = some (.ref a)) : ∀ v ∈ vals, v.category = 1 := by
  intro v hv
  obtain ⟨j, hj⟩ := List.getElem?_of_mem hv
  have hlt : j < (g_prm g).length := by rw [← hl]; exact (List.getElem?_eq_some_iff.mp hj).1
  have hg := List.getElem?_eq_getElem hlt
  cases hr : g_raw g with
  | none =>
    obtain ⟨w, e1, e2⟩ := h1 j _ hg (Or.inl hr)
    rw [hj] at e1
    cases e1
    exact z_c1_ok (List.all_eq_true.mp hc _ (List.getElem_mem hlt)) e2
  | some ci =>
    by_cases hj0 : j = 0
    · subst hj0
      obtain ⟨a, ha⟩ := h2 ci hr
      rw [hj] at ha
      cases ha
      rfl
    · obtain ⟨w, e1, e2⟩ := h1 j _ hg (Or.inr hj0)
      rw [hj] at e1
      cases e1
      exact z_c1_ok (List.all_eq_true.mp hc _ (List.getElem_mem hlt)) e2
theorem z_sat_env0 (h : z_sat OB D DA cl TY PHI sz raw pu T0 H0 env0 nL st T H locs env ls stk) : z_sat OB D DA cl TY PHI sz raw pu T0 H0 env nL st T H locs env ls stk := ⟨h.1, ⟨[], by rw [List.append_nil]⟩, h.2.2⟩
/-- what the entry gives -/
theorem z_ent_ok {ws : List Nat} {U : State} {vals : List Value} (hp : z_Pre OB D DA cl FT TY sz KX g T vals.toArray U) (h : z_ent TY cl FT nL g = some (st, ws)) :
    (∀ v ∈ vals, v.category = 1) ∧ vals.length ≤ nL ∧ ∃ (env : List Value) (raw : Option Nat), (∀ q, raw = some q ↔ ((g_raw g).isSome = true ∧ vals[0]? = some (.ref q))) ∧
      z_sat OB D DA cl TY PHI sz raw pu T U.heap env nL st T U.heap [] env ((lg_sl vals ++ List.replicate (nL - (lg_sl vals).length) Slot.unset).toArray) [] ∧ vals.length = (g_prm g).length ∧ (∀ (j : Nat) (v : Value), vals[j]? = some v → env[j]? = some v) ∧
      ws.length = (g_loc g).length ∧ (∀ (i : Nat) (q : zLoc × zV) (w : Nat), (g_loc g)[i]? = some q → ws[i]? = some w → ∃ v : Value, env[w]? = some v ∧ z_lv D cl U.heap (vals[q.1.1]?) q.1 v) := by
  obtain ⟨vals2, e0, hl, h1, h2, h3, h4, h5, h6, h7, h8⟩ := hp
  have : vals = vals2 := by
    have := congrArg Array.toList e0
    simpa using this
  subst this
  unfold z_ent at h
  cases hc : ((g_prm g).all z_c1 && Nat.ble (g_prm g).length nL) with
  | false => rw [hc] at h; cases h
  | true =>
    rw [hc] at h
    rw [Bool.and_eq_true] at hc
    have hcat := z_vals1 hl hc.1 h1 (fun ci hci => by obtain ⟨a, r, V, x, _⟩ := h2 ci hci; exact ⟨a, x⟩)
    have hn : vals.length ≤ nL := by rw [hl]; exact Nat.le_of_ble_eq_true hc.2
    refine ⟨hcat, hn, ?_⟩
    have hmem : ∀ raw : Option Nat, z_mem OB D DA cl TY PHI sz raw pu T U.heap T U.heap [] 0 := fun raw => ⟨h4, ⟨h5, fun _ => ⟨rfl, rfl⟩, z_fin_rf⟩, fun a t ht => ht, fun q _ hq _ => ⟨hq, rfl⟩, va_S.rf⟩
    cases hr : g_raw g with
    | none =>
      simp only [hr, cond_true] at h
      have hs0 : z_sat OB D DA cl TY PHI sz none pu T U.heap vals nL ((List.range (g_prm g).length).map (fun i => (i, i)), [], (g_prm g).length, z_en 0 (g_prm g), [], [], [], [], (0, 0), 0) T U.heap [] vals ((lg_sl vals ++ List.replicate (nL - (lg_sl vals).length) Slot.unset).toArray) [] := by
        refine ⟨hl, ⟨[], by rw [List.append_nil]⟩, ?_, rfl, fun q hq => ?_, fun q hq => absurd hq List.not_mem_nil, fun q hq => absurd hq List.not_mem_nil, fun q hq => absurd hq List.not_mem_nil, trivial, hmem none⟩
        · have := z_ls_entry (x := []) hcat hn
          rw [List.append_nil, hl] at this
          exact this
        · obtain ⟨j, hj, he⟩ := z_en_mem hq
          obtain ⟨v, e1, e2⟩ := h1 j _ hj (Or.inl hr)
          rw [he, Nat.zero_add]
          exact ⟨v, e1, e2⟩
      cases hgl : z_gls TY cl (List.range (g_prm g).length) (g_loc g) ((List.range (g_prm g).length).map (fun i => (i, i)), [], (g_prm g).length, z_en 0 (g_prm g), [], [], [], [], (0, 0), 0) with
      | none => rw [hgl] at h; cases h
      | some y =>
        obtain ⟨st1, ws1⟩ := y
        simp only [hgl] at h
        cases h
        obtain ⟨x, g1, g2, g3, g4⟩ := z_gls_ok hgl hs0
        have lookup : ∀ (i : Nat) (q : zLoc × zV) (w : Nat), (g_loc g)[i]? = some q → ws[i]? = some w → ∃ v : Value, (vals ++ x)[w]? = some v ∧ z_lv D cl U.heap (vals[q.1.1]?) q.1 v := by
          intro i q w hi hw
          obtain ⟨v, d, m1, m2, m3⟩ := g4 i q w hi hw
          refine ⟨v, m1, ?_⟩
          have hd := List.getElem?_eq_some_iff.mp m2
          obtain ⟨hd1, hd2⟩ := hd
          have hd3 : d = q.1.1 := by simpa using hd2.symm
          have hlt : q.1.1 < vals.length := by rw [hl]; simpa using hd1
          rw [hd3, List.getElem?_append_left hlt] at m3
          exact m3
        refine ⟨vals ++ x, none, fun q => by simp, z_sat_env0 (z_sat_mor g1 (S := []) rfl (fun q hq => ?_) (fun q hq => absurd hq List.not_mem_nil)), hl, fun j v hj => z_app hj, g3, lookup⟩
        obtain ⟨i, hi⟩ := List.getElem?_of_mem hq
        rw [List.getElem?_zip_eq_some] at hi
        obtain ⟨hi1, hi2⟩ := hi
        rw [List.getElem?_map] at hi2
        cases hq2 : (g_loc g)[i]? with
        | none => rw [hq2] at hi2; cases hi2
        | some q2 =>
          rw [hq2] at hi2
          have hi3 : q2.2 = q.2 := by simpa using hi2
          obtain ⟨v, m1, m2⟩ := lookup i q2 q.1 hq2 hi1
          obtain ⟨w0, n1, n2⟩ := h3 q2 (List.mem_of_getElem? hq2)
          have := z_lv_fun m2 n1
          subst this
          exact ⟨v, m1, by rw [← hi3]; exact n2⟩
    | some ci =>
      simp only [hr, cond_true] at h
      obtain ⟨a, r, V, a1, a2, a3, a4, a5, a6⟩ := h2 ci hr
      split at h
      · rename_i r2 c0 ps hr2 hlo hps
        cases h
        rw [a4] at hr2
        cases hr2
        have hl2 : vals.length = ps.length + 1 := by rw [hl, hps]; rfl
        have n1 : (vals ++ [Value.int 0])[ps.length + 1]? = some (.int 0) := by rw [← hl2]; simp
        refine ⟨vals ++ [.int 0], some a, fun q => ?_, ⟨by show (vals ++ [Value.int 0]).length = ps.length + 2; rw [List.length_append, hl2]; rfl, ⟨[], by rw [List.append_nil]⟩, ?_, rfl, fun q hq => ?_, fun q hq => ?_, fun q hq => absurd hq List.not_mem_nil, fun q hq => absurd hq List.not_mem_nil, ⟨⟨a, z_app a1, a2, ⟨a3, Or.inr rfl⟩, ⟨r, V, a4, a5⟩, fun p hp => absurd hp List.not_mem_nil⟩, trivial⟩, hmem (some a)⟩, hl, fun j v hj => z_app hj, by rw [hlo]; rfl, fun i q w hi => by rw [hlo] at hi; simp at hi⟩
        · rw [a1]
          constructor
          · intro hh; cases hh; exact ⟨rfl, rfl⟩
          · rintro ⟨-, hh⟩; cases hh; rfl
        · have := z_ls_entry (x := [.int 0]) hcat hn
          rw [hl2] at this
          exact this
        · rcases List.mem_cons.mp hq with rfl | hq
          · exact ⟨_, n1, 0, rfl, Int.le_refl _, Int.le_refl _⟩
          · obtain ⟨j, hj, he⟩ := z_en_mem hq
            obtain ⟨v, e1, e2⟩ := h1 (j + 1) q.2 (by rw [hps]; simpa using hj) (Or.inr (by omega))
            rw [he, Nat.add_comm]
            exact ⟨v, z_app e1, e2⟩
        · have hq : q ∈ ((List.range r.2.2).filter (fun k => z_zf (FT ci k))).map (fun k => (0, ci, k, ps.length + 1)) := hq
          obtain ⟨k1, hk1, rfl⟩ := List.mem_map.mp hq
          obtain ⟨hk2, hk3⟩ := List.mem_filter.mp hk1
          have hlt := List.mem_range.mp hk2
          refine ⟨a, .int 0, r, z_app a1, n1, a4, hlt, ?_⟩
          obtain ⟨cell, x1, x2, x3, x4⟩ := a5
          refine ⟨cell, x1, x3, ?_⟩
          show cell.slots[D.2 ci k1]? = some (.int 0)
          rw [x4 _ hlt, a6 k1 hlt hk3]
      · cases h
end ZENTRY
