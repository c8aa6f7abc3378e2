/-! The law's body over many calls: an induction over i; the state at the loop's head has the symbols script, L, i, x, m; behind them six ghosts: the ints of this call. -/
def zm_ex (R : List (Nat × Nat × Int)) (d e : Nat) : Option Int := match z_lbs R 6 d e, z_lbs R 6 e d with
  | some a, some b => cond (z_ile a (-b) && z_ile (-b) a) (some a) none
  | _, _ => none
def zm_rd (cc : ByteArray) : zHk := fun pc st => match decode cc pc with
  | .ok (.arraylength, 1) => (match z_S st with
    | d :: S => (match z_get (z_V st) d with
      | some (.inr (.inr 1)) => some [(pc + 1, z_stS st (1 :: S))]
      | _ => none)
    | _ => none)
  | .ok (.iaload, 1) => (match z_S st with
    | j :: d :: S => (match z_get (z_V st) d, zm_ex (z_R st) j 2, z_isi st j with
      | some (.inr (.inr 1)), some c, true => cond (z_ile 0 c && z_ile c 5 && (match z_lbs (z_R st) 6 1 j with
        | some k => z_ile 1 k
        | none => false)) (some [(pc + 1, z_stS st ((5 + c.toNat) :: S))]) none
      | _, _, _ => none)
    | _ => none)
  | _ => none
def zm_fit (hd : zS) (iv : zS → Nat → Bool) (cur : zS) : Bool := match z_loc (z_L cur) 0, z_loc (z_L cur) 1, z_loc (z_L cur) 2, z_loc (z_L cur) 3 with
  | some d0, some d1, some d2, some d3 => Nat.beq d0 0 && iv cur d3 && z_sub2 cur hd [0, 1, d3, d1, d2]
  | _, _, _, _ => false
/-- i is 6 more than symbol 2 -/
def zm_iv6 (cur : zS) (d : Nat) : Bool := z_isi cur d && (match zm_ex (z_R cur) d 2 with
  | some k => z_ile 6 k && z_ile k 6
  | none => false)
def zm_iv0 (cur : zS) (d : Nat) : Bool := match z_get (z_V cur) d with
  | some (.inl r) => z_ile 0 r.1 && z_ile r.2 0
  | _ => false
def zm_hk (cc : ByteArray) (hd : zS) (hpc : Nat) (iv : zS → Nat → Bool) : zHk := fun pc st => cond (Nat.beq pc hpc && zm_fit hd iv st) (some []) (zm_rd cc pc st)
/-- what the guards are -/
def zm_at (b L i : Nat) (xs : Nat → Int32) (env : List Value) : Prop := env[0]? = some (.ref b) ∧ env[1]? = some (.int (Int32.ofNat L)) ∧ env[2]? = some (.int (Int32.ofNat i)) ∧ ∀ c, c < 6 → env[5 + c]? = some (.int (xs (i + c)))
section ZLOOP
variable {p : Program} {l : Launch} {e : Env} {R : Room} {s : State} {m : MethodId} {args : Array Value} {below : List Frame} {meth : Method} {c : Code} {Q : State → Prop} {cc : ByteArray} {pc : Nat}
variable {OB : Nat → Nat} {D : va_G} {DA : Nat → ClassId} {cl : List vw_C} {FT : Nat → Nat → FieldType} {TY : List zTy} {PHI : List (List Nat)} {sz : Nat} {T0 : zTp} {env0 : List Value} {nL : Nat} {st : zS} {good : Nat → zS → Prop}
variable {b L i : Nat} {xs : Nat → Int32}
theorem zm_ex_ok {Rr : List (Nat × Nat × Int)} {env : List Value} (hr : z_fr env Rr) {d f : Nat} {k : Int} {vd ve : Int32} (h : zm_ex Rr d f = some k) (h1 : env[d]? = some (.int vd)) (h2 : env[f]? = some (.int ve)) : vd.toInt = ve.toInt + k := by
  unfold zm_ex at h
  split at h
  · rename_i a b' ha hb
    obtain ⟨hc, rfl⟩ := z_cond h
    rw [Bool.and_eq_true] at hc
    have c1 := z_ile_ok hc.1
    have c2 := z_ile_ok hc.2
    obtain ⟨v1, g1, g2⟩ := z_lbs_ok hr ha h1
    obtain ⟨v2, g3, g4⟩ := z_lbs_ok hr hb h2
    rw [h2] at g1
    cases g1
    rw [h1] at g3
    cases g3
    omega
  · cases h
theorem zm_rd_ok (hg : z_Good p l e R s m args below meth c Q OB D DA cl TY PHI sz none false T0 s.heap env0 nL good) (hx : p.tables.exec = Jvm.exec) (hb : c.code = cc) (hX : va_X b L xs s s.heap) (hbl : b < s.heap.size) (hsz : sz = s.heap.size) (hL : L < 2147483648) (hi : i < 2147483648) (hOB : OB 0 = b) (he : zm_at b L i xs env0)
    {Ls : List (Nat × zS)} (h : zm_rd cc pc st = some Ls) (hall : ∀ q ∈ Ls, good q.1 q.2) : good pc st := by
  have hbA : ¬ sz ≤ b := by omega
  have h0 : ∀ {env : List Value} {k : Nat} {v : Value}, (∃ w, env = env0 ++ w) → env0[k]? = some v → env[k]? = some v := by
    intro env k v hw hv
    obtain ⟨w, rfl⟩ := hw
    exact z_app hv
  unfold zm_rd at h
  split at h
  · rename_i hd
    split at h
    · rename_i d S hS
      split at h
      · rename_i hV
        cases h
        have k0 : good (pc + 1) (z_stS st (1 :: S)) := hall _ (List.mem_singleton.mpr rfl)
        refine (hg _ _).mpr fun T H locs env ls stk hs => ?_
        obtain ⟨v, kk, rfl, e1, hk⟩ := z_stk_cons hS hs.2.2.2.1
        obtain ⟨v2, e2, e3⟩ := z_get_ok hs.2.2.2.2.1 hV
        rw [e1] at e2
        cases e2
        have e3 : v = .ref (OB 0) := e3
        rw [hOB] at e3
        subst e3
        have hmem := hs.2.2.2.2.2.2.2.2.2
        refine va_slen hx hb hX hbl hbA hmem.2.2.2.2 hd ?_
        exact (hg _ _).mp k0 T H locs env ls _ (z_sat_stS hs ⟨_, kk, rfl, h0 hs.2.1 he.2.1, hk⟩)
      · cases h
    · cases h
  · rename_i hd
    split at h
    · rename_i j d S hS
      split at h
      · rename_i k hV hE hI
        cases hc : (z_ile 0 k && z_ile k 5 && (match z_lbs (z_R st) 6 1 j with
          | some k => z_ile 1 k
          | none => false)) with
        | false => rw [hc] at h; cases h
        | true =>
          rw [hc] at h
          cases h
          simp only [Bool.and_eq_true] at hc
          obtain ⟨⟨c1, c2⟩, c4⟩ := hc
          have c1 := z_ile_ok c1
          have c2 := z_ile_ok c2
          have k0 : good (pc + 1) (z_stS st ((5 + k.toNat) :: S)) := hall _ (List.mem_singleton.mpr rfl)
          refine (hg _ _).mpr fun T H locs env ls stk hs => ?_
          obtain ⟨vj, kk, rfl, e1, hk⟩ := z_stk_cons hS hs.2.2.2.1
          obtain ⟨vd, kk2, rfl, f1, hk2⟩ := hk
          obtain ⟨y, e2⟩ := z_isi_ok hI hs
          rw [e1] at e2
          cases e2
          obtain ⟨v3, f2, f3⟩ := z_get_ok hs.2.2.2.2.1 hV
          rw [f1] at f2
          cases f2
          have f3 : vd = .ref (OB 0) := f3
          rw [hOB] at f3
          subst f3
          have hmem := hs.2.2.2.2.2.2.2.2.2
          have hLv : env[1]? = some (.int (Int32.ofNat L)) := h0 hs.2.1 he.2.1
          have hiv : env[2]? = some (.int (Int32.ofNat i)) := h0 hs.2.1 he.2.2.1
          have hLi : (Int32.ofNat L).toInt = (L : Int) := Int32.toInt_ofNat_of_lt (by omega)
          have hii : (Int32.ofNat i).toInt = (i : Int) := Int32.toInt_ofNat_of_lt (by omega)
          have hy := zm_ex_ok hs.2.2.2.2.2.2.2.1 hE e1 hiv
          split at c4
          · rename_i k4 hk4
            have c4 := z_ile_ok c4
            obtain ⟨vx, g1, g2⟩ := z_lbs_ok hs.2.2.2.2.2.2.2.1 hk4 hLv
            rw [e1] at g1
            cases g1
            have hcl : y.toNatClampNeg = i + k.toNat := by show y.toInt.toNat = _; omega
            have hin : vp_in y L := by
              intro hh
              rcases hh with hh | hh
              · have := Int32.lt_iff_toInt_lt.mp hh
                have e0 : (0 : Int32).toInt = 0 := rfl
                omega
              · rw [hcl] at hh
                omega
            refine va_sld hx hb hX hbl hbA hmem.2.2.2.2 hin hd ?_
            rw [hcl]
            exact (hg _ _).mp k0 T H locs env ls _ (z_sat_stS hs ⟨_, kk2, rfl, h0 hs.2.1 (he.2.2.2 k.toNat (by omega)), hk2⟩)
          · cases c4
      · cases h
    · cases h
  · cases h
/-- the head is reached again -/
theorem zm_fit_ok {hd : zS} {hpc i' : Nat} {iv : zS → Nat → Bool} (hn : z_n hd = 5) (hg : z_Good p l e R s m args below meth c Q OB D DA cl TY PHI sz none false T0 s.heap env0 nL good) (hb0 : env0[0]? = some (.ref b)) (hb1 : env0[1]? = some (.int (Int32.ofNat L)))
    (hiv : ∀ T H locs env ls stk d, z_sat OB D DA cl TY PHI sz none false T0 s.heap env0 nL st T H locs env ls stk → iv st d = true → env[d]? = some (.int (Int32.ofNat i')))
    (hIH : ∀ T H locs env ls stk, env[0]? = some (.ref b) → env[1]? = some (.int (Int32.ofNat L)) → env[2]? = some (.int (Int32.ofNat i')) → z_sat OB D DA cl TY PHI sz none false T0 s.heap env nL hd T H locs env ls stk → W p l e R s m args below meth c H locs (z_C hd).1 (z_C hd).2 Q (F0 m hpc ls stk))
    (h : zm_fit hd iv st = true) : good hpc st := by
  refine (hg _ _).mpr fun T H locs env ls stk hs => ?_
  unfold zm_fit at h
  split at h
  · rename_i d0 d1 d2 d3 h0 h1 h2 h3
    simp only [Bool.and_eq_true] at h
    obtain ⟨⟨-, hi3⟩, hsub⟩ := h
    obtain ⟨c1, c2, env3, c3, c4⟩ := z_sub2_ok hsub hs
    obtain ⟨w, hw⟩ := hs.2.1
    have hh : ∀ {k : Nat} {v : Value}, env0[k]? = some v → env[k]? = some v := fun hv => by rw [hw]; exact z_app hv
    refine W.widen c1 c2 (hIH T H locs env3 ls stk ?_ ?_ ?_ c4)
    · rw [c3 0 0 rfl]; exact hh hb0
    · rw [c3 1 1 rfl]; exact hh hb1
    · rw [c3 2 d3 rfl]; exact hiv T H locs env ls stk d3 hs hi3
  · cases h
end ZLOOP
