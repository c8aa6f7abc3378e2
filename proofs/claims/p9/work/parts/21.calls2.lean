/-! Behind a call. -/
section ZCALLS2
variable {p : Program} {l : Launch} {e : Env} {R : Room} {s : State} {m : MethodId} {args : Array Value} {below : List Frame} {meth : Method} {c : Code} {Q : State → Prop} {cc : ByteArray} {pc : Nat}
variable {OB : Nat → Nat} {D : va_G} {DA : Nat → ClassId} {cl : List vw_C} {FT : Nat → Nat → FieldType} {TY : List zTy} {PHI : List (List Nat)} {sz : Nat} {raw : Option Nat} {pu : Bool} {T0 : zTp} {H0 : Heap} {env0 : List Value} {nL : Nat} {st st' : zS} {T : zTp} {H : Heap} {locs : List Loc} {env : List Value} {ls : Array Slot} {stk : List Value} {g : zSig} {KX : State → Heap → Prop} {rest : List Value} {cells slots mc ms : Nat} {good : Nat → zS → Prop}
theorem z_mpT {T' : zTp} (h : ∀ a t, T a = some t → T' a = some (z_phi PHI (g_ph g) t)) {k : zV} {v : Value} (hv : z_v OB T k v) : z_v OB T' (z_mp PHI (g_ph g) k) v := by
  match k, hv with
  | .inl r, hv => exact hv
  | .inr (.inl t), ⟨a, e, ha⟩ => exact ⟨a, e, h a t ha⟩
  | .inr (.inr 0), hv => exact hv
  | .inr (.inr (k + 1)), hv => exact hv
theorem z_fx_call {n0 : Nat} {H1 : Heap} {T' : zTp} {f : Nat × Nat → Bool} : ∀ {X : List (Nat × Nat)}, (∀ p ∈ X, f p = true → ∀ a : Nat, env[p.1]? = some (.ref a) → T a = none → a < H.size → T' a = none ∧ H1[a]? = H[a]?) → z_fx D cl T sz n0 raw H env X → z_fx D cl T' sz n0 raw H1 env (X.filter f)
  | [], _, h => h
  | x :: X, hk, ⟨⟨b, h1, h2, h3, ⟨r, V, h4, h4b⟩, h5⟩, hr⟩ => by
    have ih := z_fx_call (fun p hp => hk p (List.mem_cons_of_mem _ hp)) hr
    unfold List.filter
    cases hx : f x with
    | false => exact ih
    | true =>
      have hlt : b < H.size := by
        obtain ⟨cell, x1, -⟩ := h4b
        exact (Array.getElem?_eq_some_iff.mp x1).1
      obtain ⟨k1, k2⟩ := hk x List.mem_cons_self hx b h1 h2 hlt
      exact ⟨⟨b, h1, k1, h3, ⟨r, V, h4, h4b.kept k2⟩, fun p hp => h5 p (List.mem_filter.mp hp).1⟩, ih⟩
/-- what all ends share -/
theorem z_bas_ok {As : List Nat} {va vr : List Value} {v : Option Value} {s1 t : State} {H1 : Heap} {locs1 : List Loc} (hs : z_sat OB D DA cl TY PHI sz raw pu T0 H0 env0 nL st T H locs env ls vr) (hA : As.length = va.length) (hA2 : ∀ (j a : Nat), As[j]? = some a → ∃ x, va[j]? = some x ∧ env[a]? = some x)
    (hraw : ∀ ci, g_raw g = some ci → ∃ a, As[0]? = some a ∧ z_isx st a = true) (hph : g_ph g = 0 ∨ (z_ph st = 0 ∨ (Nat.blt (z_ph st) 1000 = true ∧ Nat.blt (g_ph g) 1000 = true))) (hpu : g_pur g = true ∨ pu = false) (h0 : s1.heap = H) (ht : t.heap = H1) (hS : va_S (fun q => sz ≤ q) H0 H1 locs1) (hP : z_Post OB D DA cl TY PHI sz g T va.toArray s1 (.returned v) t) :
    ∃ T' P, z_sat OB D DA cl TY PHI sz raw pu T0 H0 env0 nL (z_bas TY cl PHI g As st) T' H1 locs1 env ls vr ∧ P ∈ g_pst g ∧ z_Cs OB D cl g T' va H H1 v P ∧ (∀ a t, T a = some t → T' a = some (z_phi PHI (g_ph g) t)) ∧ (g_pur g = true → H1 = H ∧ T' = T) := by
  obtain ⟨va2, v2, T', q1, q2, q3, q4, q5, q6, q7, q8, ⟨q9, qf⟩, P, q10, q11⟩ := hP
  have hva : va = va2 := by have := congrArg Array.toList q1; simpa using this
  subst hva
  have hvv : v = v2 := Outcome.returned.inj q2
  subst hvv
  rw [h0] at q6 q7 q8 q9 qf q11
  rw [ht] at q3 q6 q7 q8 q9 qf q11
  refine ⟨T', P, ?_, q10, q11, q5, q9⟩
  obtain ⟨m1, ⟨m2, m3, mf⟩, m4, m5, m6⟩ := hs.2.2.2.2.2.2.2.2.2
  -- a raw cell that is not the one handed on
  have keep : ∀ a : Nat, a < H.size → T a = none → (∀ d, g_raw g ≠ none → As[0]? = some d → env[d]? ≠ some (.ref a)) → T' a = none ∧ H1[a]? = H[a]? := by
    intro a ha1 ha2 ha3
    refine q6 a ha1 ha2 (fun hi hv0 => ?_)
    cases hr : g_raw g with
    | none => rw [hr] at hi; cases hi
    | some ci =>
      obtain ⟨d, hd, _⟩ := hraw ci hr
      obtain ⟨x, hx1, hx2⟩ := hA2 0 d hd
      rw [hv0] at hx1
      cases hx1
      exact ha3 d (by rw [hr]; simp) hd hx2
  have hV : z_fv OB T' env (cond (Nat.beq (g_ph g) 0) (z_V st) ((z_V st).map (fun q => (q.1, z_mp PHI (g_ph g) q.2)))) := by
    cases hb : Nat.beq (g_ph g) 0 with
    | true =>
      intro f hf
      obtain ⟨w, e1, e2⟩ := hs.2.2.2.2.1 f hf
      have := z_mpT (g := g) q5 e2
      rw [z_beq hb, z_mp0] at this
      exact ⟨w, e1, this⟩
    | false =>
      intro f hf
      obtain ⟨q, hq, rfl⟩ := List.mem_map.mp hf
      obtain ⟨w, e1, e2⟩ := hs.2.2.2.2.1 q hq
      exact ⟨w, e1, z_mpT q5 e2⟩
  refine ⟨hs.1, hs.2.1, hs.2.2.1, hs.2.2.2.1, hV, ?_, ?_, hs.2.2.2.2.2.2.2.1, ?_, q3, ⟨q4, fun h => ?_, z_fin_tr mf qf⟩, fun a u hu => ?_, fun q hq1 hq2 hq3 => ?_, hS⟩
  · show z_ff D cl H1 env (cond (g_pur g) _ _)
    cases hp : g_pur g with
    | true => rw [(q9 hp).1]; exact hs.2.2.2.2.2.1
    | false =>
      intro f hf
      obtain ⟨hf1, hf2⟩ := List.mem_filter.mp hf
      obtain ⟨a, w, r, e1, e2, e3, e4, e5⟩ := hs.2.2.2.2.2.1 f hf1
      rw [Bool.or_eq_true] at hf2
      rcases hf2 with hf2 | hf2
      · unfold z_fnl at hf2
        split at hf2
        · rename_i t2 ht2
          split at hf2
          · rename_i o r2 ho2 hr2
            rw [Bool.and_eq_true] at hf2
            obtain ⟨v3, u1, a3, rfl, u2⟩ := z_get_ok hs.2.2.2.2.1 ht2
            rw [e1] at u1
            cases u1
            obtain ⟨oc, of⟩ := o
            have hoc : oc = f.2.1 := z_beq hf2.1
            subst hoc
            rw [e3] at hr2
            cases hr2
            obtain ⟨t', fl', k1, k2, k3⟩ := qf a t2 _ of u2 ho2
            exact ⟨a, w, r, e1, e2, e3, e4, k3 r _ w e3 e4 hf2.2 e5⟩
          · cases hf2
        · cases hf2
      rw [Bool.and_eq_true] at hf2
      obtain ⟨b, g1, g2, g3, y, hy, hyd, r2, V2, g4, g5⟩ := z_isx_ok hf2.1 hs
      rw [e1] at g1
      cases g1
      have hlt : a < H.size := by
        obtain ⟨cell, x1, -⟩ := e5
        exact (Array.getElem?_eq_some_iff.mp x1).1
      refine ⟨a, w, r, e1, e2, e3, e4, z_sl_kept e5 (keep a hlt g2 (fun d hd1 hd2 hd3 => ?_)).2⟩
      cases hr : g_raw g with
      | none => exact hd1 hr
      | some ci =>
        have h5 := hf2.2
        rw [hr, hd2] at h5
        have hne : f.1 ≠ d := fun h => by rw [h] at h5; simp at h5
        obtain ⟨d2, hd4, hd5⟩ := hraw ci hr
        rw [hd2] at hd4
        cases hd4
        obtain ⟨_, _, _, _, z, hz, hzd, _⟩ := z_isx_ok hd5 hs
        exact z_fx_apart hs.2.2.2.2.2.2.2.2.1 hy hz (by rw [hyd, hzd]; exact hne) (by rw [hyd]; exact e1) (by rw [hzd]; exact hd3)
  · show z_fe H1 env (cond (g_pur g) _ _)
    cases hp : g_pur g with
    | true => rw [(q9 hp).1]; exact hs.2.2.2.2.2.2.1
    | false => exact fun f hf => absurd hf List.not_mem_nil
  · have hX := hs.2.2.2.2.2.2.2.2.1
    have lt : ∀ q ∈ z_X st, ∀ a : Nat, env[q.1]? = some (.ref a) → T a = none → a < H.size → (∀ d, g_raw g ≠ none → As[0]? = some d → env[d]? ≠ some (.ref a)) → T' a = none ∧ H1[a]? = H[a]? := fun q _ a _ ha2 ha3 ha4 => keep a ha3 ha2 ha4
    show z_fx D cl T' sz H0.size raw H1 env (match g_raw g, As[0]? with
      | some _, some a => (z_X st).filter (fun p => !(Nat.beq p.1 a))
      | _, _ => z_X st)
    cases hr : g_raw g with
    | none =>
      have := z_fx_call (H1 := H1) (T' := T') (f := fun _ => true) (fun q hq _ a ha1 ha2 ha3 => lt q hq a ha1 ha2 ha3 (fun d hd => absurd hr hd)) hX
      rw [List.filter_eq_self.mpr (fun _ _ => rfl)] at this
      exact this
    | some ci =>
      obtain ⟨d, hd, hdx⟩ := hraw ci hr
      rw [hd]
      refine z_fx_call (f := fun p => !(Nat.beq p.1 d)) (fun q hq hf a ha1 ha2 ha3 => lt q hq a ha1 ha2 ha3 (fun d2 _ hd2 hd3 => ?_)) hX
      rw [hd] at hd2
      cases hd2
      have hne : q.1 ≠ d := fun h => by rw [h] at hf; simp at hf
      obtain ⟨_, _, _, _, z, hz, hzd, _⟩ := z_isx_ok hdx hs
      exact z_fx_apart hX hq hz (by rw [hzd]; exact hne) ha1 (by rw [hzd]; exact hd3)
  · rcases hpu with hp | hp
    · obtain ⟨y1, y2⟩ := q9 hp
      obtain ⟨z1, z2⟩ := m3 h
      exact ⟨y1.trans z1, y2.trans z2⟩
    · rw [hp] at h; cases h
  · have h1 := q5 a _ (m4 a u hu)
    show T' a = some (z_phi PHI (cond (Nat.beq (g_ph g) 0) (z_ph st) (cond (Nat.beq (z_ph st) 0) (g_ph g) (g_ph g * 1000 + z_ph st))) u)
    cases hb : Nat.beq (g_ph g) 0 with
    | true => rw [z_beq hb] at h1; exact h1
    | false =>
      cases hb2 : Nat.beq (z_ph st) 0 with
      | true => rw [z_beq hb2] at h1; exact h1
      | false =>
        rcases hph with h | h | h
        · rw [h] at hb; cases hb
        · rw [h] at hb2; cases hb2
        · show T' a = some (z_phi PHI (g_ph g * 1000 + z_ph st) u)
          rw [z_phi_cmp h.1 h.2 (fun h0 => by rw [h0] at hb; cases hb)]
          exact h1
  · obtain ⟨y1, y2⟩ := m5 q hq1 hq2 hq3
    obtain ⟨z1, z2⟩ := keep q (Nat.lt_of_lt_of_le hq1 m6.1) y1 (fun d hd1 hd2 hd3 => by
      cases hr : g_raw g with
      | none => exact hd1 hr
      | some ci =>
        obtain ⟨d2, hd4, hd5⟩ := hraw ci hr
        rw [hd2] at hd4
        cases hd4
        obtain ⟨b, g1, g2, g3, _⟩ := z_isx_ok hd5 hs
        rw [hd3] at g1
        cases g1
        rcases g3.2 with h | h
        · omega
        · exact hq3 h)
    exact ⟨z1, z2.trans y2⟩
theorem z_rfA_ok {As : List Nat} {va : List Value} (hA2 : ∀ (j a : Nat), As[j]? = some a → ∃ x, va[j]? = some x ∧ env[a]? = some x) : ∀ {A : List (Nat × zV)} {st : zS} {L : List zS}, z_rfA As A st = some L → (∀ q ∈ A, ∃ x, va[q.1]? = some x ∧ z_v OB T q.2 x) → z_sat OB D DA cl TY PHI sz raw pu T0 H0 env0 nL st T H locs env ls stk →
    ∃ st', L = [st'] ∧ z_sat OB D DA cl TY PHI sz raw pu T0 H0 env0 nL st' T H locs env ls stk ∧ z_C st' = z_C st ∧ z_S st' = z_S st
  | [], st, L, h, _, hs => by
    cases h
    exact ⟨st, rfl, hs, rfl, rfl⟩
  | q :: r, st, L, h, hq, hs => by
    obtain ⟨x, e1, e2⟩ := hq q List.mem_cons_self
    have hr := fun p hp => hq p (List.mem_cons_of_mem _ hp)
    unfold z_rfA at h
    split at h
    · rename_i a ha
      obtain ⟨x2, e3, e4⟩ := hA2 _ _ ha
      rw [e1] at e3
      cases e3
      split at h
      · rename_i r1 r2 hv hc
        rw [hc] at e2
        obtain ⟨y, rfl, hy⟩ := e2
        obtain ⟨w, e5, y2, rfl, hy2⟩ := z_get_ok hs.2.2.2.2.1 hv
        rw [e4] at e5
        cases e5
        have hin : z_in (z_max r1.1 r2.1, z_min r1.2 r2.2) y := ⟨z_max_le hy2.1 hy.1, z_min_ge hy2.2 hy.2⟩
        have hb : z_ile (z_max r1.1 r2.1) (z_min r1.2 r2.2) = true := decide_eq_true (Int.le_trans hin.1 hin.2)
        rw [hb] at h
        obtain ⟨st', g1, g2, g3, g4⟩ := z_rfA_ok hA2 h hr (z_sat_mor hs hs.2.2.2.1 (fun f hf => by rw [List.mem_singleton.mp hf]; exact ⟨_, e4, z_vi hin⟩) (fun f hf => absurd hf List.not_mem_nil))
        exact ⟨st', g1, g2, g3, g4⟩
      · obtain ⟨st', g1, g2, g3, g4⟩ := z_rfA_ok hA2 h hr (z_sat_mor hs hs.2.2.2.1 (fun f hf => by rw [List.mem_singleton.mp hf]; exact ⟨_, e4, e2⟩) (fun f hf => absurd hf List.not_mem_nil))
        exact ⟨st', g1, g2, g3, g4⟩
    · cases h
end ZCALLS2
