/-! A contract over names is one over types. -/
def zb_cF (TY : List zTy) (NT : List Nat) (y : zNL) (R : List (Nat × Option zR)) : Bool := (n_I y).all (fun q => match zb_fr TY NT q with
  | some w => (match R.find? (fun u => Nat.beq u.1 q.2.2.2) with
    | none => z_ile w.1 (-2147483648) && z_ile 2147483647 w.2
    | some u => (match u.2 with
      | none => true
      | some r => z_ile w.1 r.1 && z_ile r.2 w.2))
  | none => false)
def zb_oF (R : List (Nat × Option zR)) (F F' : List Int) : Prop := ∀ u ∈ R, match u.2 with
  | none => zn_l F' u.1 = zn_l F u.1
  | some r => ∀ x, zn_l F' u.1 = some x → r.1 ≤ x ∧ x ≤ r.2
def zb_cG (TY : List zTy) (NT : List Nat) (y : zNL) (R : List (Nat × Option (Nat × zR))) : Bool := (n_A y).all (fun q => match zb_ar TY NT q with
  | some o => (match R.find? (fun u => Nat.beq u.1 q.2.2.2) with
    | none => o.all (fun s => match s.2 with
      | .inl w => z_ile w.1 (-2147483648) && z_ile 2147483647 w.2
      | .inr _ => false)
    | some u => (match u.2 with
      | none => true
      | some v => Nat.ble q.2.2.1 v.1 && o.all (fun s => match s.2 with
        | .inl w => z_ile w.1 v.2.1 && z_ile v.2.2 w.2
        | .inr _ => false)))
  | none => false)
def zb_oG (R : List (Nat × Option (Nat × zR))) (G G' : List (Int → Int)) : Prop := ∀ u ∈ R, match u.2 with
  | none => zn_l G' u.1 = zn_l G u.1
  | some v => ∀ g, zn_l G' u.1 = some g → ∀ j : Int, 0 ≤ j → j < v.1 → v.2.1 ≤ g j ∧ g j ≤ v.2.2
def zb_iF : List zR → List Int → Prop
  | [], F => F = []
  | r :: R, F => ∃ x F', F = x :: F' ∧ r.1 ≤ x ∧ x ≤ r.2 ∧ zb_iF R F'
def zb_iG : List (Nat × zR) → List (Int → Int) → Prop
  | [], G => G = []
  | r :: R, G => ∃ g G', G = g :: G' ∧ (∀ j : Int, 0 ≤ j → j < r.1 → r.2.1 ≤ g j ∧ g j ≤ r.2.2) ∧ zb_iG R G'
def zb_ciF (TY : List zTy) (NT : List Nat) : List (Nat × Nat × Nat × Nat) → List zR → Bool
  | [], [] => true
  | q :: I, r :: R => (match zb_fr TY NT q with
    | some w => z_ile r.1 w.1 && z_ile w.2 r.2
    | none => false) && zb_ciF TY NT I R
  | _, _ => false
def zb_ciG (TY : List zTy) (NT : List Nat) : List (Nat × Nat × Nat × Nat) → List (Nat × zR) → Bool
  | [], [] => true
  | q :: I, r :: R => (Nat.ble r.1 q.2.2.1 && (match zb_ar TY NT q with
    | some o => o.any (fun s => Nat.beq s.1.1 0 && Nat.ble q.2.2.1 (s.1.2 + 1) && (match s.2 with
      | .inl w => z_ile r.2.1 w.1 && z_ile w.2 r.2.2
      | .inr _ => false))
    | none => false)) && zb_ciG TY NT I R
  | _, _ => false
def zb_iA : List (Nat ⊕ zR) → List zNV → Prop
  | [], va => va = []
  | .inl c :: L, va => ∃ va', va = .inr c :: va' ∧ zb_iA L va'
  | .inr r :: L, va => ∃ x va', va = .inl x :: va' ∧ r.1 ≤ x ∧ x ≤ r.2 ∧ zb_iA L va'
def zb_cA (RC : List zbC) : Nat → List (Nat ⊕ zR) → List zV → Bool
  | _, [], [] => true
  | i, .inl c :: L, _ :: P => (match RC[c]? with
    | some (.inl j) => Nat.beq j i
    | _ => false) && zb_cA RC (i + 1) L P
  | i, .inr r :: L, .inl w :: P => z_ile r.1 w.1 && z_ile w.2 r.2 && zb_cA RC (i + 1) L P
  | _, _, _ => false
/-- names that are arguments have the arguments' types -/
def zb_cC (NT : List Nat) (RC : List zbC) (prm : List zV) : Bool := (List.range RC.length).all (fun c => match RC[c]? with
  | some (.inl i) => (match prm[i]?, NT[c]? with
    | some (.inr (.inl u)), some t => Nat.beq u t
    | _, _ => false)
  | _ => true)
def zb_cR (ret : Option zV) (RR : Option (Option zR)) : Bool := match ret, RR with
  | none, none => true
  | some (.inl w), some none => z_ile w.1 (-2147483648) && z_ile 2147483647 w.2
  | some (.inl w), some (some r) => z_ile w.1 r.1 && z_ile r.2 w.2
  | _, _ => false
def zb_oR (RR : Option (Option zR)) (r : Option Int) : Prop := match RR with
  | none => r = none
  | some none => ∃ v, r = some v
  | some (some w) => ∃ v, r = some v ∧ w.1 ≤ v ∧ v ≤ w.2
/-- fields of arguments that a method does not write -/
def zb_cL (y : zNL) (RC : List zbC) (q : zLoc × zV) : Bool := match q.1.2.2.2, q.2 with
  | none, .inl _ => (List.range RC.length).any (fun c => (match RC[c]? with
    | some (.inl j) => Nat.beq j q.1.1
    | _ => false) && (n_O y).any (fun u => Nat.beq u.1 c && Nat.beq u.2 q.1.2.1) && (n_I y).all (fun u => !(Nat.beq u.1 c && Nat.beq u.2.2.1 q.1.2.2.1)))
  | _, _ => false
section ZBOK
variable {OB : Nat → Nat} {D : va_G} {DA : Nat → ClassId} {cl : List vw_C} {FT : Nat → Nat → FieldType} {TY : List zTy} {PHI : List (List Nat)} {T : zTp} {H H1 : Heap} {y : zNL} {NT : List Nat} {RC : List zbC} {A : Nat → Nat}
theorem zb_cF_ok {F F' : List Int} {R : List (Nat × Option zR)} (hw : zb_wf TY cl y NT RC = true) (h : zb_cF TY NT y R = true) (hF : zb_rF TY NT y F) (hr : ∀ q ∈ n_I y, ∃ x : Int32, zn_l F' q.2.2.2 = some x.toInt) (ho : zb_oF R F F') : zb_rF TY NT y F' := by
  intro q hq w hqw
  obtain ⟨x, hx⟩ := hr q hq
  refine ⟨x.toInt, hx, ?_⟩
  have h1 := List.all_eq_true.mp h q hq
  rw [hqw] at h1
  simp only at h1
  split at h1
  · rw [Bool.and_eq_true] at h1
    have l1 := z_ile_ok h1.1
    have l2 := z_ile_ok h1.2
    have b1 := z_lo x
    have b2 := z_hi x
    omega
  · rename_i u hu
    have hm := List.mem_of_find?_eq_some hu
    have hp0 := List.find?_some hu
    have hp : u.1 = q.2.2.2 := z_beq hp0
    have hou := ho u hm
    split at h1
    · rename_i hn
      rw [hn] at hou
      simp only at hou
      rw [hp, hx] at hou
      obtain ⟨x0, e0, e1, e2⟩ := hF q hq w hqw
      rw [e0] at hou
      have hou := Option.some.inj hou
      omega
    · rename_i r hn
      rw [hn] at hou
      simp only at hou
      rw [Bool.and_eq_true] at h1
      have l1 := z_ile_ok h1.1
      have l2 := z_ile_ok h1.2
      have := hou x.toInt (by rw [hp]; exact hx)
      omega
theorem zb_cG_ok {G G' : List (Int → Int)} {R : List (Nat × Option (Nat × zR))} (h : zb_cG TY NT y R = true) (hG : zb_rG TY NT y G) (hr : ∀ q ∈ n_A y, ∃ g, zn_l G' q.2.2.2 = some g ∧ ∀ j : Nat, j < q.2.2.1 → ∃ x : Int32, x.toInt = g j) (ho : zb_oG R G G') : zb_rG TY NT y G' := by
  intro q hq o hqo
  obtain ⟨g, hg, hgx⟩ := hr q hq
  refine ⟨g, hg, fun s hs j j1 j2 j3 r hr2 => ?_⟩
  have h1 := List.all_eq_true.mp h q hq
  rw [hqo] at h1
  simp only at h1
  split at h1
  · have h2 := List.all_eq_true.mp h1 s hs
    rw [hr2] at h2
    simp only [Bool.and_eq_true] at h2
    obtain ⟨x, hx⟩ := hgx j j1
    have l1 := z_ile_ok h2.1
    have l2 := z_ile_ok h2.2
    have b1 := z_lo x
    have b2 := z_hi x
    omega
  · rename_i u hu
    have hm := List.mem_of_find?_eq_some hu
    have hp0 := List.find?_some hu
    have hp : u.1 = q.2.2.2 := z_beq hp0
    have hou := ho u hm
    split at h1
    · rename_i hn
      rw [hn] at hou
      simp only at hou
      rw [hp, hg] at hou
      obtain ⟨g0, e0, e1⟩ := hG q hq o hqo
      rw [e0] at hou
      have hou := Option.some.inj hou
      subst hou
      exact e1 s hs j j1 j2 j3 r hr2
    · rename_i v hn
      rw [hn] at hou
      simp only at hou
      rw [Bool.and_eq_true] at h1
      have h2 := List.all_eq_true.mp h1.2 s hs
      rw [hr2] at h2
      simp only [Bool.and_eq_true] at h2
      have l1 := z_ile_ok h2.1
      have l2 := z_ile_ok h2.2
      have l3 := Nat.le_of_ble_eq_true h1.1
      have := hou g (by rw [hp]; exact hg) j (by omega) (by omega)
      omega
theorem zb_ciF_ok {f : (Nat × Nat × Nat × Nat) → Int} : ∀ {I : List (Nat × Nat × Nat × Nat)} {R : List zR}, zb_ciF TY NT I R = true → (∀ q ∈ I, ∀ w, zb_fr TY NT q = some w → w.1 ≤ f q ∧ f q ≤ w.2) → zb_iF R (I.map f)
  | [], [], _, _ => rfl
  | [], _ :: _, h, _ => by cases h
  | _ :: _, [], h, _ => by cases h
  | q :: I, r :: R, h, hf => by
    unfold zb_ciF at h
    rw [Bool.and_eq_true] at h
    obtain ⟨h1, h2⟩ := h
    split at h1
    · rename_i w hw
      rw [Bool.and_eq_true] at h1
      have l1 := z_ile_ok h1.1
      have l2 := z_ile_ok h1.2
      have := hf q List.mem_cons_self w hw
      exact ⟨f q, I.map f, rfl, by omega, by omega, zb_ciF_ok h2 (fun q hq => hf q (List.mem_cons_of_mem _ hq))⟩
    · cases h1
theorem zb_ciG_ok {f : (Nat × Nat × Nat × Nat) → Int → Int} : ∀ {I : List (Nat × Nat × Nat × Nat)} {R : List (Nat × zR)}, zb_ciG TY NT I R = true → (∀ q ∈ I, ∀ o, zb_ar TY NT q = some o → ∀ s ∈ o, ∀ j : Nat, j < q.2.2.1 → s.1.1 ≤ j → j ≤ s.1.2 → ∀ r, s.2 = .inl r → r.1 ≤ f q j ∧ f q j ≤ r.2) → zb_iG R (I.map f)
  | [], [], _, _ => rfl
  | [], _ :: _, h, _ => by cases h
  | _ :: _, [], h, _ => by cases h
  | q :: I, r :: R, h, hf => by
    unfold zb_ciG at h
    rw [Bool.and_eq_true, Bool.and_eq_true] at h
    obtain ⟨⟨h0, h1⟩, h2⟩ := h
    split at h1
    · rename_i o ho
      obtain ⟨s, s1, s2⟩ := List.any_eq_true.mp h1
      rw [Bool.and_eq_true, Bool.and_eq_true] at s2
      obtain ⟨⟨s3, s4⟩, s5⟩ := s2
      have e3 := z_beq s3
      have e4 := Nat.le_of_ble_eq_true s4
      have e0 := Nat.le_of_ble_eq_true h0
      refine ⟨f q, I.map f, rfl, fun j j1 j2 => ?_, zb_ciG_ok h2 (fun q hq => hf q (List.mem_cons_of_mem _ hq))⟩
      split at s5
      · rename_i w hw
        rw [Bool.and_eq_true] at s5
        have l1 := z_ile_ok s5.1
        have l2 := z_ile_ok s5.2
        have := hf q List.mem_cons_self o ho s s1 j.toNat (by omega) (by omega) (by omega) w hw
        rw [Int.toNat_of_nonneg j1] at this
        omega
      · cases s5
    · cases h1
theorem zb_va {vals : List Value} (hl : ∀ (c i : Nat), RC[c]? = some (.inl i) → vals[i]? = some (.ref (A c))) : ∀ {AR : List (Nat ⊕ zR)} {prm : List zV} {vs : List Value} {i : Nat}, zb_cA RC i AR prm = true → vs.length = prm.length → (∀ (j : Nat) (c : zV), prm[j]? = some c → ∃ v, vs[j]? = some v ∧ z_v OB T c v) → (∀ (j : Nat) (v : Value), vs[j]? = some v → vals[i + j]? = some v) → ∃ va, zb_iA AR va ∧ zn_st A va vs
  | [], [], vs, i, _, h2, _, _ => by
    have : vs = [] := List.eq_nil_of_length_eq_zero h2
    exact ⟨[], rfl, this⟩
  | [], _ :: _, _, _, h, _, _, _ => by cases h
  | .inl _ :: _, [], _, _, h, _, _, _ => by cases h
  | .inr _ :: _, [], _, _, h, _, _, _ => by cases h
  | .inr _ :: _, .inr _ :: _, _, _, h, _, _, _ => by cases h
  | .inl c :: L, k :: P, vs, i, h, h2, h3, h4 => by
    simp only [zb_cA, Bool.and_eq_true] at h
    obtain ⟨h5, h6⟩ := h
    match vs, h2, h3, h4 with
    | v :: vs, h2, h3, h4 =>
      split at h5
      · rename_i j hj
        have hji : j = i := z_beq h5
        subst hji
        have e1 := hl c j hj
        have e2 := h4 0 v rfl
        rw [Nat.add_zero, e1] at e2
        have e2 := Option.some.inj e2
        obtain ⟨va, a1, a2⟩ := zb_va hl (i := j + 1) h6 (by simpa using h2) (fun q c hc => by simpa using h3 (q + 1) c (by simpa using hc)) (fun q w hq => by have := h4 (q + 1) w (by simpa using hq); rw [show j + (q + 1) = j + 1 + q by omega] at this; exact this)
        exact ⟨.inr c :: va, ⟨va, rfl, a1⟩, v, vs, rfl, e2.symm, a2⟩
      · cases h5
  | .inr r :: L, .inl w :: P, vs, i, h, h2, h3, h4 => by
    simp only [zb_cA, Bool.and_eq_true] at h
    obtain ⟨⟨h5, h5'⟩, h6⟩ := h
    match vs, h2, h3, h4 with
    | v :: vs, h2, h3, h4 =>
      obtain ⟨v', e1, x, e2, x1, x2⟩ := h3 0 (.inl w) rfl
      have e1 : v = v' := by simpa using e1
      subst e1
      have l1 := z_ile_ok h5
      have l2 := z_ile_ok h5'
      obtain ⟨va, a1, a2⟩ := zb_va hl (i := i + 1) h6 (by simpa using h2) (fun q c hc => by simpa using h3 (q + 1) c (by simpa using hc)) (fun q w hq => by have := h4 (q + 1) w (by simpa using hq); rw [show i + (q + 1) = i + 1 + q by omega] at this; exact this)
      exact ⟨.inl x.toInt :: va, ⟨x.toInt, va, rfl, by omega, by omega, a1⟩, v, vs, rfl, ⟨x, e2, rfl⟩, a2⟩
def zb_rr (OB : Nat → Nat) (T : zTp) (ret : Option zV) (v : Option Value) : Prop := match ret, v with
  | none, none => True
  | some c, some x => z_v OB T c x
  | _, _ => False
theorem zb_cR_ok : ∀ {ret : Option zV} {RR : Option (Option zR)} {r : Option Int} {v : Option Value}, zb_cR ret RR = true → zb_oR RR r → zn_rv r v → zb_rr OB T ret v
  | none, none, none, none, _, _, _ => trivial
  | none, none, none, some _, _, _, q1 => absurd q1 (fun h => h)
  | none, none, some x, _, _, o3, _ => by
    have o3 : some x = none := o3
    cases o3
  | none, some _, _, _, h, _, _ => by cases h
  | some (.inl _), none, _, _, h, _, _ => by cases h
  | some (.inr _), _, _, _, h, _, _ => by cases h
  | some (.inl w), some none, some x, some u, hcR, _, ⟨z, z1, z2⟩ => by
    simp only [zb_cR, Bool.and_eq_true] at hcR
    have l1 := z_ile_ok hcR.1
    have l2 := z_ile_ok hcR.2
    have b1 := z_lo z
    have b2 := z_hi z
    exact ⟨z, z1, by show w.1 ≤ z.toInt; omega, by show z.toInt ≤ w.2; omega⟩
  | some (.inl _), some _, some _, none, _, _, q1 => absurd q1 (fun h => h)
  | some (.inl _), some none, none, _, _, o3, _ => by
    obtain ⟨v2, hv2⟩ := o3
    cases hv2
  | some (.inl w), some (some rr), some x, some u, hcR, o3, ⟨z, z1, z2⟩ => by
    simp only [zb_cR, Bool.and_eq_true] at hcR
    have l1 := z_ile_ok hcR.1
    have l2 := z_ile_ok hcR.2
    obtain ⟨v2, hv2, a1, a2⟩ := o3
    have hv2 : x = v2 := Option.some.inj hv2
    exact ⟨z, z1, by show w.1 ≤ z.toInt; omega, by show z.toInt ≤ w.2; omega⟩
  | some (.inl _), some (some _), none, _, _, o3, _ => by
    obtain ⟨v2, hv2, a1, a2⟩ := o3
    cases hv2
theorem zb_cL_ok {vals : List Value} {q : zLoc × zV} (h : zb_cL y RC q = true) (hl : ∀ (c i : Nat), RC[c]? = some (.inl i) → vals[i]? = some (.ref (A c))) (hf : zn_frm D cl y A H H1) {w : Value} (h1 : z_lv D cl H (vals[q.1.1]?) q.1 w) (hv : z_v OB T q.2 w) :
    z_lv D cl H1 (vals[q.1.1]?) q.1 w ∧ ∃ x : Int32, w = .int x := by
  obtain ⟨⟨i, ci, k, o⟩, c0⟩ := q
  obtain ⟨a, r, e1, e2, e3, e4⟩ := h1
  match o, c0, h, hv, e4 with
  | none, .inl rr, h, hv, e4 =>
    obtain ⟨c, hc1, hc2⟩ := List.any_eq_true.mp h
    rw [Bool.and_eq_true, Bool.and_eq_true] at hc2
    obtain ⟨⟨h2, h3⟩, h4⟩ := hc2
    split at h2
    · rename_i j hj
      have hji : j = i := z_beq h2
      subst hji
      have e5 := hl c j hj
      have e1 : vals[j]? = some (.ref a) := e1
      rw [e5] at e1
      have ea : A c = a := by cases e1; rfl
      subst ea
      obtain ⟨u, u1, u2⟩ := List.any_eq_true.mp h3
      rw [Bool.and_eq_true] at u2
      obtain ⟨ua, ub⟩ := u
      have eu1 : ua = c := z_beq u2.1
      have eu2 : ub = ci := z_beq u2.2
      subst eu1; subst eu2
      refine ⟨⟨A ua, r, e5, e2, e3, ?_⟩, ?_⟩
      · refine hf.2.2 _ u1 r k w e2 e3 (fun i2 hi2 g1 g2 => ?_) e4
        have h5 := List.all_eq_true.mp h4 i2 hi2
        have g1 : i2.1 = ua := g1
        rw [g1, g2, Nat.beq_refl, Nat.beq_refl] at h5
        cases h5
      · obtain ⟨x, ex, -⟩ := hv
        exact ⟨x, ex⟩
    · cases h2
theorem zb_kp {KP : List Nat} {RGo : List (Nat × Option (Nat × zR))} {G G' : List (Int → Int)} (h : KP.all (fun j => RGo.any (fun u => Nat.beq u.1 j && u.2.isNone)) = true) (ho : zb_oG RGo G G') : ∀ j ∈ KP, zn_l G' j = zn_l G j := by
  intro j hj
  obtain ⟨u, u1, u2⟩ := List.any_eq_true.mp (List.all_eq_true.mp h j hj)
  rw [Bool.and_eq_true] at u2
  have h1 := ho u u1
  have h2 : u.2 = none := Option.isNone_iff_eq_none.mp u2.2
  rw [h2] at h1
  have h1 : zn_l G' u.1 = zn_l G u.1 := h1
  rw [z_beq u2.1] at h1
  exact h1
theorem zb_OK {KXf : (Nat → Nat) → Nat → State → Heap → Prop} {TBL : List Cond} {mm : zM} {rm : Nat × Nat} {prm : List zV} {ret : Option zV} {AR : List (Nat ⊕ zR)} {RF : List zR} {RG : List (Nat × zR)} {RFo : List (Nat × Option zR)} {RGo : List (Nat × Option (Nat × zR))} {RR : Option (Option zR)} {LO : List (zLoc × zV)} {KP : List Nat} {JB JA : List Int → List (Int → Int) → Prop} (hkp : KP.all (fun j => RGo.any (fun u => Nat.beq u.1 j && u.2.isNone)) = true)
    (hw : zb_wf TY cl y NT RC = true) (hc : ((zb_ciF TY NT (n_I y) RF && zb_ciG TY NT (n_A y) RG) && ((zb_cF TY NT y RFo && zb_cG TY NT y RGo) && ((zb_cA RC 0 AR prm && zb_cC NT RC prm) && (zb_cR ret RR && LO.all (zb_cL y RC))))) = true) (hJ : zb_Jm cl TY y NT KP JB JA)
    (hC : ∀ va F G, zb_iA AR va → zb_iF RF F → zb_iG RG G → JB F G → ∃ P Q, zn_OK TBL cl KXf y mm rm P Q ∧ P va F G ∧ ∀ r F' G', Q va F G r F' G' → zb_oF RFo F F' ∧ zb_oG RGo G G' ∧ zb_oR RR r ∧ JA F' G') :
    z_OK TBL cl FT TY PHI KXf mm.1 mm.2.1 mm.2.2.1 mm.2.2.2.1 (prm, none, LO, [([], ret, LO.map (fun q => (q.2, some 0, some 0)), [])], false, (0, 0), rm, 0) := by
  simp only [Bool.and_eq_true] at hc
  obtain ⟨⟨hcF, hcG⟩, ⟨hcFo, hcGo⟩, ⟨hcA, hcC⟩, hcR, hcL⟩ := hc
  intro l OB D DA sz T p e hadm hf1 hf2 s m args below hfr happ hPre hK0
  obtain ⟨vals, rfl, hlen, hprm, -, hloc, hht, hge, hsz, hKc, hX⟩ := hPre
  have hS0 : ∃ S : Nat → Nat, ∀ (c i : Nat), RC[c]? = some (.inl i) → ∃ t, NT[c]? = some t ∧ T (S i) = some t ∧ vals[i]? = some (.ref (S i)) := by
    refine ⟨fun i => match vals[i]? with
      | some (.ref a) => a
      | _ => 0, fun c i hci => ?_⟩
    have h1 := List.all_eq_true.mp hcC c (List.mem_range.mpr (List.getElem?_eq_some_iff.mp hci).1)
    rw [hci] at h1
    simp only at h1
    split at h1
    · rename_i u t hu ht
      have : u = t := z_beq h1
      subst this
      obtain ⟨v, e1, a, rfl, e2⟩ := hprm i _ hu (Or.inl rfl)
      have e3 : (match vals[i]? with
        | some (.ref a) => a
        | _ => 0) = a := by rw [e1]
      refine ⟨u, ht, ?_, ?_⟩
      · show T (match vals[i]? with
          | some (.ref a) => a
          | _ => 0) = some u
        rw [e3]; exact e2
      · show vals[i]? = some (.ref (match vals[i]? with
          | some (.ref a) => a
          | _ => 0))
        rw [e3]; exact e1
    · cases h1
  obtain ⟨S, hS⟩ := hS0
  obtain ⟨A, hOB, hA, hAS, hrep, hrF, hrG⟩ := zb_open hw hht.1 (S := S) (fun c i h => by obtain ⟨t, t1, t2, -⟩ := hS c i h; exact ⟨t, t1, t2⟩)
  have hl : ∀ (c i : Nat), RC[c]? = some (.inl i) → vals[i]? = some (.ref (A c)) := fun c i hci => by
    obtain ⟨t, t1, t2, t3⟩ := hS c i hci
    rw [hAS c i hci]; exact t3
  obtain ⟨va, hva, hst⟩ := zb_va (OB := OB) (T := T) hl (vs := vals) (i := 0) hcA hlen (fun j c hj => hprm j c hj (Or.inl rfl)) (fun j v h => by rw [Nat.zero_add]; exact h)
  have hiF : zb_iF RF (zb_F D s.heap A y) := zb_ciF_ok hcF (fun q hq w hqw => by
    obtain ⟨x, x1, x2⟩ := hrF q hq w hqw
    unfold zb_F at x1
    rw [zb_place (zb_wfS hw).1 hq] at x1
    have x1 := Option.some.inj x1
    rw [x1]; exact x2)
  have hiG : zb_iG RG (zb_G s.heap A y) := zb_ciG_ok hcG (fun q hq o hqo st hst2 j j1 j2 j3 r hr => by
    obtain ⟨g, x1, x2⟩ := hrG q hq o hqo
    unfold zb_G at x1
    rw [zb_place (zb_wfS hw).2 hq] at x1
    have x1 := Option.some.inj x1
    subst x1
    exact x2 st hst2 j j1 j2 j3 r hr)
  obtain ⟨hJB, hJo⟩ := hJ OB D DA T s.heap A _ _ hht.1 hht.2 hA hrep
  obtain ⟨P, Q, hok, hP, hQ⟩ := hC va _ _ hva hiF hiG hJB
  have hgeA : ∀ c, c < n_N y → sz ≤ A c := fun c hc => by obtain ⟨t, _, t2⟩ := hA c hc; exact hge _ _ t2
  obtain ⟨n, o, k1, k2, k3, k4, k5⟩ := hok l OB D DA sz A va _ _ hP (zb_inj hw hA) hgeA hOB p e hadm hf1 hf2 s m _ below hfr happ ⟨vals, rfl, hst, hrep, hsz, hKc, hX⟩ trivial
  refine ⟨n, o, k1, k2, k3, ?_, k5⟩
  obtain ⟨r, v, F', G', e0, q1, q2, q3, q4⟩ := k4
  obtain ⟨o1, o2, o3, o4⟩ := hQ r F' G' q4
  have hrF' := zb_cF_ok hw hcFo hrF (fun q hq => by obtain ⟨_, x, _, _, _, h⟩ := q2.2.1 q hq; exact ⟨x, h⟩) o1
  have hrG' := zb_cG_ok hcGo hrG (fun q hq => by obtain ⟨f, g, _, h, h2⟩ := q2.2.2.2 q hq; exact ⟨g, h, fun j hj => by obtain ⟨x, _, x2⟩ := h2 j hj; exact ⟨x, x2⟩⟩) o2
  obtain ⟨c1, c2⟩ := zb_close hw hht.1 hA q2 q3 hrF' hrG'
  refine ⟨vals, v, T, rfl, e0, ⟨c1, hJo _ F' G' c1 q2 q3 (zb_kp hkp o2) o4⟩, hge, fun a u h => h, fun q hq1 hq2 _ => ⟨hq2, q3.2.1 q (fun c hc e => ?_)⟩, Nat.le_of_eq q3.1.symm, fun q hq1 hq2 => q3.2.1 q (fun c hc e => hq2 (by rw [← e]; exact hgeA c hc)), ⟨fun h => (by cases h), c2⟩, _, List.mem_singleton.mpr rfl, fun q hq => absurd hq List.not_mem_nil, ?_, fun q hq => absurd hq List.not_mem_nil, fun i q h hi hh => ?_⟩
  · obtain ⟨t, _, t2⟩ := hA c hc
    rw [e, hq2] at t2
    cases t2
  · exact zb_cR_ok hcR o3 q1
  · have hi : LO[i]? = some q := hi
    have hh : (LO.map (fun q => (q.2, some (0 : Int), some (0 : Int))))[i]? = some h := hh
    rw [List.getElem?_map, hi] at hh
    have hh : (q.2, some (0 : Int), some (0 : Int)) = h := Option.some.inj hh
    subst hh
    have hm := List.mem_of_getElem? hi
    obtain ⟨w, w1, w2⟩ := hloc q hm
    obtain ⟨g1, x, rfl⟩ := zb_cL_ok (List.all_eq_true.mp hcL q hm) hl q3 w1 w2
    exact ⟨_, _, w1, g1, w2, fun k hk => ⟨x, x, rfl, rfl, by cases hk; omega⟩, fun k hk => ⟨x, x, rfl, rfl, by cases hk; omega⟩⟩
end ZBOK
