/-! From typed cells to named ones: as many types as cells. -/
theorem zy_pig : ∀ (n : Nat) (w : Nat → Nat), (∀ i, i < n → w i < n) → (∀ i j, i < n → j < n → w i = w j → i = j) → ∀ k, k < n → ∃ i, i < n ∧ w i = k := by
  intro n
  induction n with
  | zero => intro w _ _ k hk; omega
  | succ n ih =>
    intro w hw hi k hk
    have hv := hw n (Nat.lt_succ_self n)
    have inj : ∀ i j, i < n → j < n → (if w i = n then w n else w i) = (if w j = n then w n else w j) → i = j := by
      intro i j h1 h2 h
      by_cases a : w i = n
      · by_cases b : w j = n
        · exact hi i j (by omega) (by omega) (a.trans b.symm)
        · rw [if_pos a, if_neg b] at h
          have := hi n j (by omega) (by omega) h
          omega
      · by_cases b : w j = n
        · rw [if_neg a, if_pos b] at h
          have := hi i n (by omega) (by omega) h
          omega
        · rw [if_neg a, if_neg b] at h
          exact hi i j (by omega) (by omega) h
    have low : ∀ i, i < n → (if w i = n then w n else w i) < n := by
      intro i h1
      have h2 := hw i (by omega)
      by_cases a : w i = n
      · rw [if_pos a]
        have : w n ≠ n := fun e => by
          have := hi i n (by omega) (by omega) (a.trans e.symm)
          omega
        omega
      · rw [if_neg a]; omega
    have sur := ih (fun i => if w i = n then w n else w i) low inj
    by_cases ek : k = n
    · subst ek
      by_cases ev : w k = k
      · exact ⟨k, by omega, ev⟩
      · obtain ⟨i, i1, i2⟩ := sur (w k) (by omega)
        by_cases a : w i = k
        · exact ⟨i, by omega, a⟩
        · have i2 : (if w i = k then w k else w i) = w k := i2
          rw [if_neg a] at i2
          have := hi i k (by omega) (by omega) i2
          omega
    · obtain ⟨i, i1, i2⟩ := sur k (by omega)
      by_cases a : w i = n
      · have i2 : (if w i = n then w n else w i) = k := i2
        rw [if_pos a] at i2
        exact ⟨n, by omega, i2⟩
      · have i2 : (if w i = n then w n else w i) = k := i2
        rw [if_neg a] at i2
        exact ⟨i, by omega, i2⟩
/-- types that are come to: child, parent, field -/
def zy_go (TY : List zTy) : List (Nat × Nat × Nat) → List Nat → Option (List Nat)
  | [], S => some S
  | q :: P, S => cond (S.any (fun t => Nat.beq t q.2.1) && (match TY[q.2.1]? with
    | some (.inl o) => (match o.2[q.2.2]? with
      | some (.inr (.inl u)) => Nat.beq u q.1
      | _ => false)
    | _ => false)) (zy_go TY P (q.1 :: S)) none
section ZYREP
variable {OB : Nat → Nat} {D : va_G} {DA : Nat → ClassId} {cl : List vw_C} {TY : List zTy} {T : zTp} {H : Heap} {sz N : Nat} {y : zNL} {NT : List Nat} {F0 : List zNV}
theorem zy_go_ok (hh : ∀ a t, T a = some t → ∃ ty, TY[t]? = some ty ∧ z_cell OB D DA cl T H a ty) : ∀ {P : List (Nat × Nat × Nat)} {S S2 : List Nat}, zy_go TY P S = some S2 → (∀ t ∈ S, ∃ a, T a = some t) → ∀ t ∈ S2, ∃ a, T a = some t
  | [], S, S2, h, hS => by cases h; exact hS
  | q :: P, S, S2, h, hS => by
    unfold zy_go at h
    obtain ⟨hc, h⟩ := zi_if h
    rw [Bool.and_eq_true] at hc
    obtain ⟨c1, c2⟩ := hc
    obtain ⟨t, ht, ht2⟩ := List.any_eq_true.mp c1
    have e := z_beq ht2
    subst e
    obtain ⟨a, ha⟩ := hS _ ht
    obtain ⟨ty, e1, e2⟩ := hh a _ ha
    rw [e1] at c2
    match ty, e2, c2 with
    | .inl o, ⟨r, r1, r2, V, r3, r4⟩, c2 =>
      have c2 : (match o.2[q.2.2]? with
        | some (.inr (.inl u)) => Nat.beq u q.1
        | _ => false) = true := c2
      split at c2
      · rename_i u hu
        obtain ⟨a2, -, h2⟩ := r4 _ _ hu
        refine zy_go_ok hh h fun t ht => ?_
        rcases List.mem_cons.mp ht with rfl | ht
        · exact ⟨a2, by rw [← z_beq c2]; exact h2⟩
        · exact hS t ht
      · cases c2
theorem zy_inj (hge : ∀ a t, T a = some t → sz ≤ a) (hlt : ∀ a t, T a = some t → a < H.size) (hsz : H.size ≤ sz + N) (hN : ∀ t, t < N → ∃ a, T a = some t) : ∀ a b t, T a = some t → T b = some t → a = b := by
  have hw : ∀ t, ∃ a, t < N → T a = some t := fun t => by
    by_cases h : t < N
    · obtain ⟨a, ha⟩ := hN t h; exact ⟨a, fun _ => ha⟩
    · exact ⟨0, fun h2 => absurd h2 h⟩
  obtain ⟨w, hw⟩ := Classical.axiomOfChoice hw
  have sur := zy_pig N (fun t => w t - sz) (fun i hi => by
    have h1 := hge _ _ (hw i hi)
    have h2 := hlt _ _ (hw i hi)
    show w i - sz < N
    omega) (fun i j hi hj e => by
    have e : w i - sz = w j - sz := e
    have h1 := hge _ _ (hw i hi)
    have h2 := hge _ _ (hw j hj)
    have e2 : w i = w j := by omega
    have h3 := hw i hi
    rw [e2, hw j hj] at h3
    exact (Option.some.inj h3).symm)
  have at_ : ∀ a t, T a = some t → a = w t := fun a t ha => by
    have h1 := hge _ _ ha
    have h2 := hlt _ _ ha
    obtain ⟨i, i1, i2⟩ := sur (a - sz) (by omega)
    have i2 : w i - sz = a - sz := i2
    have h3 := hge _ _ (hw i i1)
    have e : w i = a := by omega
    have h4 := hw i i1
    rw [e, ha] at h4
    cases h4
    exact e.symm
  exact fun a b t ha hb => (at_ a t ha).trans (at_ b t hb).symm
def zy_val (TY : List zTy) (NT : List Nat) (c : zV) (v : zNV) : Bool := match c, v with
  | .inl r, .inl x => z_ile x r.1 && z_ile r.2 x
  | .inl _, .inr k => Nat.ble 1000 k
  | .inr (.inl u), .inr k => Nat.ble 1000 k || (match NT[k]? with
    | some t => Nat.beq t u
    | none => false)
  | _, _ => false
def zy_obj (TY : List zTy) (NT : List Nat) (c ci : Nat) : Option (List zV) := match NT[c]? with
  | some t => (match TY[t]? with
    | some (.inl o) => cond (Nat.beq o.1 ci) (some o.2) none
    | _ => none)
  | none => none
def zy_cov (segs : List ((Nat × Nat) × zV)) (n : Nat) : Bool := segs.any (fun s => Nat.beq s.1.1 0 && Nat.ble n (s.1.2 + 1) && (match s.2 with
  | .inl _ => true
  | _ => false))
def zy_arr (TY : List zTy) (NT : List Nat) (c kd n : Nat) : Bool := match NT[c]? with
  | some t => (match TY[t]? with
    | some (.inr q) => (Nat.beq q.1 kd && (Nat.beq q.2.1.1 n && Nat.beq q.2.1.2 n)) && (match kd with
      | 2 => q.2.2.any (fun s => Nat.beq s.1.1 0 && Nat.ble n (s.1.2 + 1) && (match s.2 with
        | .inr (.inr 0) => true
        | _ => false))
      | _ => zy_cov q.2.2 n)
    | _ => false)
  | none => false
def zy_ok (TY : List zTy) (y : zNL) (NT : List Nat) (F0 : List zNV) : Bool :=
  (Nat.beq NT.length (n_N y) && ((List.range (n_N y)).all (fun a => (List.range (n_N y)).all (fun b => Nat.beq a b || !(Nat.beq (NT.getD a 0) (NT.getD b 0)))))) &&
  ((n_O y).all (fun q => (zy_obj TY NT q.1 q.2).isSome) &&
  ((n_I y).all (fun q => match zy_obj TY NT q.1 q.2.1, zv_l F0 q.2.2.2 with
    | some fl, some v => (match fl[q.2.2.1]? with
      | some c => zy_val TY NT c v
      | none => false)
    | _, _ => false) &&
  ((n_R y).all (fun q => match zy_obj TY NT q.1 q.2.1, NT[q.2.2.2]? with
    | some fl, some t => (match fl[q.2.2.1]? with
      | some (.inr (.inl u)) => Nat.beq u t
      | _ => false)
    | _, _ => false) &&
  (n_A y).all (fun q => zy_arr TY NT q.1 q.2.1 q.2.2.1))))
end ZYREP
