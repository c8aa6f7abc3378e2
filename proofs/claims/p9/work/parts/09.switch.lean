/-! Switches. -/
def z_tswL (st : zS) (x : Nat) (S : List Nat) (pc : Nat) (a : zR) : Int → List Int → Option (List (Nat × zS))
  | _, [] => some []
  | key, off :: r => match z_tswL st x S pc a (key + 1) r with
    | some L => cond (z_ile a.1 key && z_ile key a.2) (match z_to pc off with
      | some t => some ((t, z_mor st S [(x, .inl (key, key))] []) :: L)
      | none => none) (some L)
    | none => none
theorem z_tswL_ok {st : zS} {x : Nat} {S : List Nat} {pc : Nat} {a : zR} : ∀ (offs : List Int) (key : Int) (L : List (Nat × zS)) (i : Nat) (off : Int), z_tswL st x S pc a key offs = some L → offs[i]? = some off → a.1 ≤ key + i → key + i ≤ a.2 → ∃ t, z_to pc off = some t ∧ (t, z_mor st S [(x, .inl (key + i, key + i))] []) ∈ L
  | [], key, L, i, off, h, hi, _, _ => by simp at hi
  | o :: r, key, L, i, off, h, hi, h1, h2 => by
    unfold z_tswL at h
    cases hr : z_tswL st x S pc a (key + 1) r with
    | none => rw [hr] at h; cases h
    | some L1 =>
      rw [hr] at h
      cases i with
      | zero =>
        have ho : o = off := by simpa using hi
        subst ho
        have hc : (z_ile a.1 key && z_ile key a.2) = true := by
          rw [Bool.and_eq_true]
          exact ⟨decide_eq_true (by simpa using h1), decide_eq_true (by simpa using h2)⟩
        rw [hc] at h
        cases ht : z_to pc o with
        | none => rw [ht] at h; cases h
        | some t =>
          rw [ht] at h
          cases h
          refine ⟨t, rfl, ?_⟩
          have : key + ((0 : Nat) : Int) = key := by omega
          rw [this]
          exact List.mem_cons_self
      | succ j =>
        have hi' : r[j]? = some off := by simpa using hi
        have e : key + ((j + 1 : Nat) : Int) = key + 1 + (j : Int) := by omega
        rw [e] at h1 h2 ⊢
        obtain ⟨t, h3, h4⟩ := z_tswL_ok r (key + 1) L1 j off hr hi' h1 h2
        refine ⟨t, h3, ?_⟩
        cases hc : (z_ile a.1 key && z_ile key a.2) with
        | false => rw [hc] at h; cases h; exact h4
        | true =>
          rw [hc] at h
          cases ht : z_to pc o with
          | none => rw [ht] at h; cases h
          | some t2 => rw [ht] at h; cases h; exact List.mem_cons_of_mem _ h4
def z_tsw (st : zS) (pc : Nat) (dflt lo hi : Int) (offs : List Int) : Option (List (Nat × zS)) := match z_S st with
  | x :: S => (match z_get (z_V st) x, z_to pc dflt with
    | some (.inl a), some t => (match z_tswL st x S pc a lo offs with
      | some L => cond (z_ile lo (hi + 1) && Nat.beq offs.length (hi + 1 - lo).toNat) (some (cond (z_ile lo a.1) [] [(t, z_mor st S [(x, .inl (a.1, z_min a.2 (lo - 1)))] [])] ++ cond (z_ile a.2 hi) [] [(t, z_mor st S [(x, .inl (z_max a.1 (hi + 1), a.2))] [])] ++ L)) none
      | none => none)
    | _, _ => none)
  | _ => none
def z_lswL (st : zS) (x : Nat) (S : List Nat) (pc : Nat) (t0 : Nat) : zR → List (Int × Int) → Option (List (Nat × zS))
  | a, [] => some (cond (z_ile a.1 a.2) [(t0, z_mor st S [(x, .inl a)] [])] [])
  | a, q :: r => match z_lswL st x S pc t0 (z_rf .ne a (q.1, q.1)) r with
    | some L => cond (z_ile a.1 q.1 && z_ile q.1 a.2) (match z_to pc q.2 with
      | some t => some ((t, z_mor st S [(x, .inl (q.1, q.1))] []) :: L)
      | none => none) (some L)
    | none => none
def z_lsw (st : zS) (pc : Nat) (dflt : Int) (ps : List (Int × Int)) : Option (List (Nat × zS)) := match z_S st with
  | x :: S => (match z_get (z_V st) x, z_to pc dflt with
    | some (.inl a), some t => cond ((ps.zip (ps.drop 1)).all (fun (a, next) => a.1 < next.1)) (z_lswL st x S pc t a ps) none
    | _, _ => none)
  | _ => none
theorem z_lswL_ok {st : zS} {x : Nat} {S : List Nat} {pc t0 : Nat} {dflt : Int} (h0 : z_to pc dflt = some t0) {v : Int32} : ∀ (ps : List (Int × Int)) (a : zR) (L : List (Nat × zS)), z_lswL st x S pc t0 a ps = some L → z_in a v → ∃ t r, z_to pc (lookupswitch.offset ps dflt v.toInt) = some t ∧ z_in r v ∧ (t, z_mor st S [(x, .inl r)] []) ∈ L
  | [], a, L, h, hv => by
    unfold z_lswL at h
    have hc : z_ile a.1 a.2 = true := decide_eq_true (Int.le_trans hv.1 hv.2)
    rw [hc] at h
    cases h
    exact ⟨t0, a, h0, hv, List.mem_singleton.mpr rfl⟩
  | q :: r, a, L, h, hv => by
    obtain ⟨key, off⟩ := q
    unfold z_lswL at h
    rw [lookupswitch.offset_cons]
    cases hr : z_lswL st x S pc t0 (z_rf .ne a (key, key)) r with
    | none => rw [hr] at h; cases h
    | some L1 =>
      rw [hr] at h
      by_cases hk : key = v.toInt
      · rw [if_pos hk]
        have hc : (z_ile a.1 key && z_ile key a.2) = true := by
          rw [Bool.and_eq_true]
          exact ⟨decide_eq_true (by rw [hk]; exact hv.1), decide_eq_true (by rw [hk]; exact hv.2)⟩
        rw [hc] at h
        cases ht : z_to pc off with
        | none => rw [ht] at h; cases h
        | some t =>
          rw [ht] at h
          cases h
          exact ⟨t, (key, key), rfl, ⟨by rw [hk]; exact Int.le_refl _, by rw [hk]; exact Int.le_refl _⟩, List.mem_cons_self⟩
      · rw [if_neg hk]
        have hv2 : z_in (z_rf .ne a (key, key)) v := by
          by_cases hb : -2147483648 ≤ key ∧ key ≤ 2147483647
          · have hkk : (Int32.ofInt key).toInt = key := Int32.toInt_ofInt_of_le (by omega) (by omega)
            exact z_rf_ok (y := Int32.ofInt key) hv ⟨by rw [hkk]; exact Int.le_refl _, by rw [hkk]; exact Int.le_refl _⟩ (by rw [hkk]; exact fun q => hk q.symm)
          · obtain ⟨x1, x2⟩ := hv
            have l := z_lo v
            have u := z_hi v
            refine ⟨?_, ?_⟩
            · show cond _ _ _ ≤ _
              cases hc : z_ile key key && z_ile a.1 key && z_ile key a.1 with
              | false => exact x1
              | true =>
                simp only [Bool.and_eq_true] at hc
                have := z_ile_ok hc.1.2; have := z_ile_ok hc.2
                show a.1 + 1 ≤ _
                omega
            · show _ ≤ cond _ _ _
              cases hc : z_ile key key && z_ile a.2 key && z_ile key a.2 with
              | false => exact x2
              | true =>
                simp only [Bool.and_eq_true] at hc
                have := z_ile_ok hc.1.2; have := z_ile_ok hc.2
                show _ ≤ a.2 - 1
                omega
        obtain ⟨t, r2, h3, h4, h5⟩ := z_lswL_ok h0 r _ L1 hr hv2
        refine ⟨t, r2, h3, h4, ?_⟩
        cases hc : (z_ile a.1 key && z_ile key a.2) with
        | false => rw [hc] at h; cases h; exact h5
        | true =>
          rw [hc] at h
          cases ht : z_to pc off with
          | none => rw [ht] at h; cases h
          | some t2 => rw [ht] at h; cases h; exact List.mem_cons_of_mem _ h5
section ZSWITCH
variable {p : Program} {l : Launch} {e : Env} {R : Room} {s : State} {m : MethodId} {args : Array Value} {below : List Frame} {meth : Method} {c : Code} {Q : State → Prop} {cc : ByteArray} {pc : Nat}
variable {OB : Nat → Nat} {D : va_G} {DA : Nat → ClassId} {cl : List vw_C} {TY : List zTy} {PHI : List (List Nat)} {sz : Nat} {raw : Option Nat} {pu : Bool} {T0 : zTp} {H0 : Heap} {env0 : List Value} {nL : Nat} {st st' : zS} {good : Nat → zS → Prop}
theorem z_r_tsw (hg : z_Good p l e R s m args below meth c Q OB D DA cl TY PHI sz raw pu T0 H0 env0 nL good) (hx : p.tables.exec = Jvm.exec) (hb : c.code = cc) {dflt lo hi : Int} {offs : Array Int} {len : Nat} (hd : decode cc pc = .ok (.tableswitch dflt lo hi offs, len)) {L : List (Nat × zS)} (h : z_tsw st pc dflt lo hi offs.toList = some L) (hall : ∀ q ∈ L, good q.1 q.2) : good pc st := by
  refine (hg _ _).mpr fun T H locs env ls stk hs => ?_
  unfold z_tsw at h
  split at h
  · rename_i x S hS
    split at h
    · rename_i a t ha ht
      split at h
      · rename_i L1 hL1
        obtain ⟨hc, rfl⟩ := z_cond h
        rw [Bool.and_eq_true] at hc
        have c1 := z_ile_ok hc.1
        have c2 := z_beq hc.2
        obtain ⟨vx, k2, rfl, e2, hk2⟩ := z_stk_cons hS hs.2.2.2.1
        obtain ⟨v, e3, x1, rfl, hxa⟩ := z_get_ok hs.2.2.2.2.1 ha
        have q1 : vx = .int x1 := Option.some.inj (e2.symm.trans e3)
        subst q1
        have go : ∀ (t2 : Nat) (r : zR), z_in r x1 → (t2, z_mor st S [(x, .inl r)] []) ∈ (cond (z_ile lo a.1) [] [(t, z_mor st S [(x, .inl (a.1, z_min a.2 (lo - 1)))] [])] ++ cond (z_ile a.2 hi) [] [(t, z_mor st S [(x, .inl (z_max a.1 (hi + 1), a.2))] [])] ++ L1) → W p l e R s m args below meth c H locs (z_C st).1 (z_C st).2 Q (F0 m t2 ls k2) := by
          intro t2 r hr hm
          refine (hg _ _).mp (hall _ hm) T H locs env ls k2 (z_sat_mor hs hk2 (fun q hq => ?_) (fun q hq => absurd hq List.not_mem_nil))
          rw [List.mem_singleton.mp hq]; exact ⟨_, e3, z_vi hr⟩
        by_cases hlo : x1.toInt < lo
        · refine lv_tableOut hx hb hd (Or.inl hlo) (z_to_ok ht) (go t (a.1, z_min a.2 (lo - 1)) ⟨hxa.1, z_min_ge hxa.2 (by omega)⟩ ?_)
          have : z_ile lo a.1 = false := by
            cases hq : z_ile lo a.1 with
            | false => rfl
            | true => have := z_ile_ok hq; have := hxa.1; omega
          rw [this]
          exact List.mem_append_left _ (List.mem_append_left _ (List.mem_singleton.mpr rfl))
        · by_cases hhi : hi < x1.toInt
          · refine lv_tableOut hx hb hd (Or.inr hhi) (z_to_ok ht) (go t (z_max a.1 (hi + 1), a.2) ⟨z_max_le hxa.1 (by omega), hxa.2⟩ ?_)
            have : z_ile a.2 hi = false := by
              cases hq : z_ile a.2 hi with
              | false => rfl
              | true => have := z_ile_ok hq; have := hxa.2; omega
            rw [this]
            exact List.mem_append_left _ (List.mem_append_right _ (List.mem_singleton.mpr rfl))
          · have hlt : (x1.toInt - lo).toNat < offs.toList.length := by omega
            have hgo := List.getElem?_eq_getElem hlt
            have ek : lo + (((x1.toInt - lo).toNat : Nat) : Int) = x1.toInt := by omega
            obtain ⟨t2, h3, h4⟩ := z_tswL_ok offs.toList lo L1 (x1.toInt - lo).toNat _ hL1 hgo (by rw [ek]; exact hxa.1) (by rw [ek]; exact hxa.2)
            rw [ek] at h4
            refine lv_tableIn hx hb hd hlo hhi (off := offs.toList[(x1.toInt - lo).toNat]) ?_ (z_to_ok h3) (go t2 _ ⟨Int.le_refl _, Int.le_refl _⟩ (List.mem_append_right _ h4))
            rw [← Array.getElem?_toList]; exact hgo
      · cases h
    · cases h
  · cases h
theorem z_r_lsw (hg : z_Good p l e R s m args below meth c Q OB D DA cl TY PHI sz raw pu T0 H0 env0 nL good) (hx : p.tables.exec = Jvm.exec) (hb : c.code = cc) {dflt : Int} {ps : Array (Int × Int)} {len : Nat} (hd : decode cc pc = .ok (.lookupswitch dflt ps, len)) {L : List (Nat × zS)} (h : z_lsw st pc dflt ps.toList = some L) (hall : ∀ q ∈ L, good q.1 q.2) : good pc st := by
  refine (hg _ _).mpr fun T H locs env ls stk hs => ?_
  unfold z_lsw at h
  split at h
  · rename_i x S hS
    split at h
    · rename_i a t ha ht
      cases hc : (ps.toList.zip (ps.toList.drop 1)).all (fun (a, next) => a.1 < next.1) with
      | false => rw [hc] at h; cases h
      | true =>
        rw [hc] at h
        obtain ⟨vx, k2, rfl, e2, hk2⟩ := z_stk_cons hS hs.2.2.2.1
        obtain ⟨v, e3, x1, rfl, hxa⟩ := z_get_ok hs.2.2.2.2.1 ha
        have q1 : vx = .int x1 := Option.some.inj (e2.symm.trans e3)
        subst q1
        obtain ⟨t2, r, h3, h4, h5⟩ := z_lswL_ok ht ps.toList a L h hxa
        refine lv_lookup hx hb hd hc rfl (z_to_ok h3) ?_
        refine (hg _ _).mp (hall _ h5) T H locs env ls k2 (z_sat_mor hs hk2 (fun q hq => ?_) (fun q hq => absurd hq List.not_mem_nil))
        rw [List.mem_singleton.mp hq]; exact ⟨_, e3, z_vi h4⟩
    · cases h
  · cases h
end ZSWITCH
