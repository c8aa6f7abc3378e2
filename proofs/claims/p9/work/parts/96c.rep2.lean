/-! From typed cells to named ones: the layout. -/
def zy_rd (H : Heap) (a : Nat) (i : Int) : Int := match H[a]? with
  | some ce => (match ce.slots[i.toNat]? with
    | some (.int x) => x.toInt
    | some (.long x) => (x.toBitVec.toNat : Int)
    | _ => 0)
  | none => 0
theorem zy_rd_at {H : Heap} {a n : Nat} {cA : ClassId} {f : Nat → Value} (h : H[a]? = some (arrV cA n f)) {j : Nat} (hj : j < n) : zy_rd H a (j : Int) = match f j with
    | .int x => x.toInt
    | .long x => (x.toBitVec.toNat : Int)
    | _ => 0 := by
  unfold zy_rd
  rw [h, Int.toNat_natCast]
  show (match (arrV cA n f).slots[j]? with
    | some (.int x) => x.toInt
    | some (.long x) => (x.toBitVec.toNat : Int)
    | _ => 0) = _
  rw [arrV_read _ _ hj]
  cases f j <;> rfl
section ZYREP2
variable {OB : Nat → Nat} {D : va_G} {DA : Nat → ClassId} {cl : List vw_C} {TY : List zTy} {T : zTp} {H : Heap} {sz N : Nat} {y : zNL} {NT : List Nat} {F0 : List zNV}
theorem zy_obj_ok {c ci : Nat} {fl : List zV} (h : zy_obj TY NT c ci = some fl) : ∃ t o, NT[c]? = some t ∧ TY[t]? = some (.inl o) ∧ o.1 = ci ∧ o.2 = fl := by
  unfold zy_obj at h
  split at h
  · rename_i t ht
    split at h
    · rename_i o ho
      obtain ⟨h1, h2⟩ := zi_if h
      exact ⟨t, o, ht, ho, z_beq h1, Option.some.inj h2⟩
    · cases h
  · cases h
theorem zy_arr_ok {c kd n : Nat} (h : zy_arr TY NT c kd n = true) : ∃ t q, NT[c]? = some t ∧ TY[t]? = some (.inr q) ∧ q.1 = kd ∧ q.2.1.1 = n ∧ q.2.1.2 = n ∧ (kd = 2 → ∃ s ∈ q.2.2, s.1.1 = 0 ∧ n ≤ s.1.2 + 1 ∧ s.2 = .inr (.inr 0)) ∧ (kd ≠ 2 → ∃ s ∈ q.2.2, s.1.1 = 0 ∧ n ≤ s.1.2 + 1 ∧ ∃ r, s.2 = .inl r) := by
  unfold zy_arr at h
  split at h
  · rename_i t ht
    split at h
    · rename_i q hq
      simp only [Bool.and_eq_true] at h
      obtain ⟨⟨h1, h2, h3⟩, h4⟩ := h
      refine ⟨t, q, ht, hq, z_beq h1, z_beq h2, z_beq h3, fun e => ?_, fun e => ?_⟩
      · subst e
        obtain ⟨s, s1, s2⟩ := List.any_eq_true.mp h4
        simp only [Bool.and_eq_true] at s2
        obtain ⟨⟨s2, s3⟩, s4⟩ := s2
        refine ⟨s, s1, z_beq s2, Nat.le_of_ble_eq_true s3, ?_⟩
        split at s4
        · rename_i e; exact e
        · cases s4
      · split at h4
        · exact absurd rfl e
        · unfold zy_cov at h4
          obtain ⟨s, s1, s2⟩ := List.any_eq_true.mp h4
          simp only [Bool.and_eq_true] at s2
          obtain ⟨⟨s2, s3⟩, s4⟩ := s2
          refine ⟨s, s1, z_beq s2, Nat.le_of_ble_eq_true s3, ?_⟩
          split at s4
          · rename_i r e; exact ⟨r, e⟩
          · cases s4
    · cases h
  · cases h
theorem zy_rep_ok (hk : zy_ok TY y NT F0 = true) (h900 : n_N y ≤ 900) (hh : ∀ a t, T a = some t → ∃ ty, TY[t]? = some ty ∧ z_cell OB D DA cl T H a ty) (hge : ∀ a t, T a = some t → sz ≤ a) (hinj : ∀ a b t, T a = some t → T b = some t → a = b) (hall : ∀ t ∈ NT, ∃ a, T a = some t) :
    ∃ A : Nat → Nat, (∀ a b, a < n_N y → b < n_N y → A a = A b → a = b) ∧ (∀ a, a < n_N y → sz ≤ A a) ∧ (∀ k, A (900 + k) = OB k) ∧ (∀ c t : Nat, NT[c]? = some t → T (A c) = some t) ∧
      (∀ G, (∀ q ∈ n_A y, zv_l G q.2.2.2 = some (zy_rd H (A q.1))) → zv_rep D DA cl y A F0 G H) ∧
      ∀ (c t : Nat) q s r, NT[c]? = some t → TY[t]? = some (.inr q) → s ∈ q.2.2 → s.2 = .inl r → ∀ i : Nat, i < q.2.1.1 → s.1.1 ≤ i → i ≤ s.1.2 → r.1 ≤ zy_rd H (A c) i ∧ zy_rd H (A c) i ≤ r.2 := by
  unfold zy_ok at hk
  simp only [Bool.and_eq_true] at hk
  obtain ⟨⟨k1, k2⟩, k3, k4, k5, k6⟩ := hk
  have hlen := z_beq k1
  have hA : ∀ c : Nat, ∃ a : Nat, ∀ t, NT[c]? = some t → T a = some t := fun c => by
    cases h : NT[c]? with
    | none => exact ⟨0, fun t ht => by cases ht⟩
    | some t =>
      obtain ⟨a, ha⟩ := hall t (List.mem_of_getElem? h)
      exact ⟨a, fun t2 h2 => by cases h2; exact ha⟩
  obtain ⟨A0, hA0⟩ := Classical.axiomOfChoice hA
  have nt : ∀ c : Nat, c < n_N y → ∃ t, NT[c]? = some t := fun c hc => ⟨_, List.getElem?_eq_getElem (by omega)⟩
  have hN : ∀ c t : Nat, NT[c]? = some t → c < n_N y := fun c t h => by
    have := (List.getElem?_eq_some_iff.mp h).1
    omega
  have hAt : ∀ c t : Nat, NT[c]? = some t → T (if c < 900 then A0 c else OB (c - 900)) = some t := fun c t h => by
    have := hN c t h
    rw [if_pos (by omega)]
    exact hA0 c t h
  refine ⟨fun c => if c < 900 then A0 c else OB (c - 900), fun a b ha hb e => ?_, fun a ha => ?_, fun k => ?_, hAt, fun G hG => ?_, fun c t q s r hc hq hs hr i hi1 hi2 hi3 => ?_⟩
  · obtain ⟨t, ht⟩ := nt a ha
    obtain ⟨u, hu⟩ := nt b hb
    have e : (if a < 900 then A0 a else OB (a - 900)) = (if b < 900 then A0 b else OB (b - 900)) := e
    have h1 := hAt a t ht
    have h2 := hAt b u hu
    rw [e, h2] at h1
    cases h1
    have h3 := List.all_eq_true.mp (List.all_eq_true.mp k2 a (List.mem_range.mpr ha)) b (List.mem_range.mpr hb)
    rw [Bool.or_eq_true] at h3
    rcases h3 with h3 | h3
    · exact z_beq h3
    · rw [List.getD_eq_getElem?_getD, List.getD_eq_getElem?_getD, ht, hu] at h3
      have : Nat.beq t t = true := Nat.beq_refl t
      simp [this] at h3
  · obtain ⟨t, ht⟩ := nt a ha
    exact hge _ t (hAt a t ht)
  · show (if 900 + k < 900 then A0 (900 + k) else OB (900 + k - 900)) = OB k
    rw [if_neg (by omega), Nat.add_sub_cancel_left]
  · have obj : ∀ {c ci : Nat} {fl : List zV}, zy_obj TY NT c ci = some fl → ∃ r V, cl[ci]? = some r ∧ fl.length = r.2.2 ∧ t_OB (if c < 900 then A0 c else OB (c - 900)) (D.1 ci) r.2.2 (D.2 ci) H V ∧ ∀ k c, fl[k]? = some c → z_v OB T c (V k) := fun h => by
      obtain ⟨t, o, h1, h2, h3, h4⟩ := zy_obj_ok h
      obtain ⟨ty, e1, e2⟩ := hh _ t (hAt _ t h1)
      rw [h2] at e1
      cases e1
      obtain ⟨r, r1, r2, V, r3, r4⟩ := e2
      rw [h3] at r1 r3
      rw [h4] at r2 r4
      exact ⟨r, V, r1, r2, r3, r4⟩
    refine ⟨fun q hq => ?_, fun q hq => ?_, fun q hq => ?_, fun q hq => ?_⟩
    · have h1 := List.all_eq_true.mp k3 q hq
      obtain ⟨fl, h2⟩ := Option.isSome_iff_exists.mp h1
      obtain ⟨r, V, r1, r2, r3, r4⟩ := obj h2
      exact ⟨r, V, r1, r3⟩
    · have h1 := List.all_eq_true.mp k4 q hq
      split at h1
      · rename_i fl v h2 h3
        split at h1
        · rename_i c hc
          obtain ⟨r, V, r1, r2, r3, r4⟩ := obj h2
          have hkl : q.2.2.1 < r.2.2 := by rw [← r2]; exact (List.getElem?_eq_some_iff.mp hc).1
          have hv := r4 _ _ hc
          obtain ⟨cell, s1, s2, s3, s4⟩ := r3
          refine ⟨r, V q.2.2.1, v, r1, hkl, ⟨cell, s1, s3, s4 _ hkl⟩, h3, fun his => ?_⟩
          unfold zy_val at h1
          split at h1
          · rename_i rr x
            rw [Bool.and_eq_true] at h1
            obtain ⟨x1, e, e2⟩ := hv
            have a1 := z_ile_ok h1.1
            have a2 := z_ile_ok h1.2
            exact ⟨x1, e, by have := e2.1; have := e2.2; omega⟩
          · rename_i rr k
            have h5 : k < 1000 := his
            have := Nat.le_of_ble_eq_true h1
            omega
          · rename_i u k
            have h5 : k < 1000 := his
            rw [Bool.or_eq_true] at h1
            rcases h1 with h1 | h1
            · have := Nat.le_of_ble_eq_true h1
              omega
            · split at h1
              · rename_i t ht
                obtain ⟨a, e, e2⟩ := hv
                have h6 := hinj _ _ _ e2 (by rw [← z_beq h1]; exact hAt k t ht)
                rw [e, h6]
                exact zv_w_mk (c := k) (A := fun c => if c < 900 then A0 c else OB (c - 900)) (by omega)
              · cases h1
          · cases h1
        · cases h1
      · cases h1
    · have h1 := List.all_eq_true.mp k5 q hq
      split at h1
      · rename_i fl t h2 h3
        split at h1
        · rename_i u hc
          obtain ⟨r, V, r1, r2, r3, r4⟩ := obj h2
          have hkl : q.2.2.1 < r.2.2 := by rw [← r2]; exact (List.getElem?_eq_some_iff.mp hc).1
          obtain ⟨a, e, e2⟩ := r4 _ _ hc
          obtain ⟨cell, s1, s2, s3, s4⟩ := r3
          refine ⟨r, r1, hkl, ⟨cell, s1, s3, ?_⟩⟩
          have h6 := hinj _ _ _ e2 (by rw [z_beq h1]; exact hAt q.2.2.2 t h3)
          rw [s4 _ hkl, e, h6]
        · cases h1
      · cases h1
    · obtain ⟨t, qq, h1, h2, h3, h4, h5, h6, h7⟩ := zy_arr_ok (List.all_eq_true.mp k6 q hq)
      obtain ⟨ty, e1, e2⟩ := hh _ t (hAt _ t h1)
      rw [h2] at e1
      cases e1
      obtain ⟨n, f, f1, f2, f3, -, f4⟩ := e2
      have en : n = q.2.2.1 := by omega
      subst en
      rw [h3] at f1
      refine ⟨f, _, f1, hG q hq, fun j hj => ?_⟩
      have hrd := zy_rd_at f1 hj
      by_cases e2 : q.2.1 = 2
      · obtain ⟨s, s1, s2, s3, s4⟩ := h6 e2
        have hv := f4 s s1 j hj (by omega) (by omega)
        rw [s4] at hv
        obtain ⟨x, hx⟩ := hv
        rw [e2]
        show f j = .long (Int64.ofNat (zy_rd H _ (j : Int)).toNat)
        rw [hrd, hx]
        show Value.long x = .long (Int64.ofNat (x.toBitVec.toNat : Int).toNat)
        rw [Int.toNat_natCast, zi_l64]
      · obtain ⟨s, s1, s2, s3, rr, s4⟩ := h7 e2
        have hv := f4 s s1 j hj (by omega) (by omega)
        rw [s4] at hv
        obtain ⟨x, hx, -⟩ := hv
        have : zv_e q.2.1 (f j) (zy_rd H (if q.1 < 900 then A0 q.1 else OB (q.1 - 900)) (j : Int)) = ∃ y : Int32, f j = .int y ∧ y.toInt = zy_rd H (if q.1 < 900 then A0 q.1 else OB (q.1 - 900)) (j : Int) := by
          unfold zv_e
          split
          · rename_i h; exact absurd h e2
          · rfl
        rw [this]
        exact ⟨x, hx, by rw [hrd, hx]⟩
  · obtain ⟨ty, e1, e2⟩ := hh _ t (hAt c t hc)
    rw [hq] at e1
    cases e1
    obtain ⟨n, f, f1, f2, f3, -, f4⟩ := e2
    have hv := f4 s hs i (by omega) hi2 hi3
    rw [hr] at hv
    obtain ⟨x, hx, hx2⟩ := hv
    have hrd := zy_rd_at f1 (show i < n by omega)
    rw [hx] at hrd
    have hrd : zy_rd H (if c < 900 then A0 c else OB (c - 900)) (i : Int) = x.toInt := hrd
    show r.1 ≤ zy_rd H (if c < 900 then A0 c else OB (c - 900)) (i : Int) ∧ zy_rd H (if c < 900 then A0 c else OB (c - 900)) (i : Int) ≤ r.2
    rw [hrd]
    exact hx2
end ZYREP2
