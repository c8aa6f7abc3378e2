/-! Arrays read and written. -/
def z_seg (sg : List ((Nat × Nat) × zV)) (r : zR) : Option zV := (sg.find? (fun g => z_ile (g.1.1 : Int) r.1 && z_ile r.2 (g.1.2 : Int))).map (fun g => g.2)
def z_ald (TY : List zTy) (ek : Nat) (st : zS) : Option zS := match z_S st with
  | j :: d :: S => (match z_get (z_V st) j, z_get (z_V st) d with
    | some (.inl r), some (.inr (.inl t)) => (match TY[t]? with
      | some (.inr q) => cond (Nat.beq q.1 ek && z_ile 0 r.1 && z_ile (r.2 + 1) (q.2.1.1 : Int)) (match z_efind st d j with
        | some w => some (z_stS st (w :: S))
        | none => (match z_seg q.2.2 r with
          | some c => some (z_ld st S c [] [(d, j, z_n st)])
          | none => none)) none
      | _ => none)
    | _, _ => none)
  | _ => none
/-- what an array keeps of a value -/
def z_kep (ek : Nat) (c : zV) : Option zV := match ek, c with
  | 0, .inl r => some (.inl r)
  | 1, .inl r => some (.inl (z_i2b r))
  | 2, .inr (.inr 0) => some (.inr (.inr 0))
  | _, _ => none
def z_ast (TY : List zTy) (RO : List Nat) (ek : Nat) (st : zS) : Option zS := match z_S st with
  | v :: j :: d :: S => (match z_get (z_V st) j, z_get (z_V st) d, (z_get (z_V st) v).bind (z_kep ek) with
    | some (.inl r), some (.inr (.inl t)), some cv => (match TY[t]? with
      | some (.inr q) => cond (Nat.beq q.1 ek && z_ile 0 r.1 && z_ile (r.2 + 1) (q.2.1.1 : Int) && (!(RO.any (fun x => Nat.beq x t)) && !(zj_prot TY t)) && q.2.2.all (fun g => z_ile (r.2 + 1) (g.1.1 : Int) || z_ile ((g.1.2 : Int) + 1) r.1 || z_le cv g.2))
          (some (z_wr st S ((z_F st).filter (fun f => z_apt st f.1 d)) (cond (Nat.beq ek 1) [] [(d, j, v)] ++ (z_E st).filter (fun f => z_apt st f.1 d || z_dis st f.2.1 j)))) none
      | _ => none)
    | _, _, _ => none)
  | _ => none
def z_alen (TY : List zTy) (st : zS) : Option zS := match z_S st with
  | d :: S => (match z_get (z_V st) d with
    | some (.inr (.inl t)) => (match TY[t]? with
      | some (.inr q) => cond (Nat.ble q.1 2) (some (z_psh st S (.inl ((q.2.1.1 : Int), (q.2.1.2 : Int))) [])) none
      | _ => none)
    | _ => none)
  | _ => none
section ZARRAYS
variable {p : Program} {l : Launch} {e : Env} {R : Room} {s : State} {m : MethodId} {args : Array Value} {below : List Frame} {meth : Method} {c : Code} {Q : State → Prop} {cc : ByteArray} {pc : Nat}
variable {OB : Nat → Nat} {D : va_G} {DA : Nat → ClassId} {cl : List vw_C} {TY : List zTy} {PHI : List (List Nat)} {sz : Nat} {raw : Option Nat} {pu : Bool} {T0 : zTp} {H0 : Heap} {env0 : List Value} {nL : Nat} {st st' : zS} {good : Nat → zS → Prop}
variable {Ts : List Cond} {own : String} {tys : List (ClassId × FieldType)} {RO : List Nat}
variable {T : zTp} {H : Heap} {locs : List Loc} {env : List Value} {ls : Array Slot} {stk : List Value} {cells slots : Nat} {rest : List Value}
theorem z_isarr (hD : z_Dy s m args Ts own D cl DA tys) {k : Nat} (hk : k < 3) (n : Nat) (f : Nat → Value) : s.isArrayOf (arrV (DA k) n f) (z_ek k) := (hD.2.2.1.2 k _ (hD.2.2.2 k hk)).1 n f
theorem z_clamp (x : Int32) : x.toNatClampNeg = x.toInt.toNat := rfl
theorem z_vpin {x : Int32} {r : zR} {lo n : Nat} (hx : z_in r x) (h0 : z_ile 0 r.1 = true) (h1 : z_ile (r.2 + 1) (lo : Int) = true) (hn : lo ≤ n) : ¬ (x < 0 ∨ n ≤ x.toNatClampNeg) ∧ 0 ≤ x.toInt ∧ x.toInt.toNat < n := by
  have q0 := z_ile_ok h0
  have q1 := z_ile_ok h1
  obtain ⟨x1, x2⟩ := hx
  refine ⟨fun h => ?_, by omega, by omega⟩
  rcases h with h | h
  · have := Int32.lt_iff_toInt_lt.mp h
    have z0 : (0 : Int32).toInt = 0 := rfl
    omega
  · rw [z_clamp] at h; omega
/-- an entry is read -/
theorem z_ald_ok {ek : Nat} (hek : ek < 3) (hD : z_Dy s m args Ts own D cl DA tys) (h : z_ald TY ek st = some st') (hs : z_sat OB D DA cl TY PHI sz raw pu T0 H0 env0 nL st T H locs env ls stk) :
    ∃ (a n : Nat) (f : Nat → Value) (x : Int32) (k : List Value) (env' : List Value), stk = .int x :: .ref a :: k ∧ H[a]? = some (arrV (DA ek) n f) ∧ ¬ (x < 0 ∨ n ≤ x.toNatClampNeg) ∧ z_C st' = z_C st ∧ (arrV (DA ek) n f).slots[x.toNatClampNeg]? = some (f x.toNatClampNeg) ∧
      z_sat OB D DA cl TY PHI sz raw pu T0 H0 env0 nL st' T H locs env' ls (f x.toNatClampNeg :: k) := by
  unfold z_ald at h
  split at h
  · rename_i j d S hS
    split at h
    · rename_i r t hj ht
      split at h
      · rename_i q hq
        cases hc : (Nat.beq q.1 ek && z_ile 0 r.1 && z_ile (r.2 + 1) (q.2.1.1 : Int)) with
        | false => rw [hc] at h; cases h
        | true =>
          rw [hc] at h
          simp only [Bool.and_eq_true] at hc
          obtain ⟨⟨hc1, hc2⟩, hc3⟩ := hc
          obtain ⟨ek2, ⟨lo, hi⟩, sg⟩ := q
          have he : ek2 = ek := z_beq hc1
          subst he
          obtain ⟨vj, k1, rfl, e1, hk1⟩ := z_stk_cons hS hs.2.2.2.1
          obtain ⟨vd, k2, rfl, e2, hk2⟩ := hk1
          obtain ⟨a, n, f, g1, g2, g3, g4, g5, g6, g7⟩ := z_arr hs ht hq
          obtain ⟨w, e3, x, rfl, hx⟩ := z_get_ok hs.2.2.2.2.1 hj
          have q1 : vj = .int x := Option.some.inj (e1.symm.trans e3)
          have q2 : vd = .ref a := Option.some.inj (e2.symm.trans g1)
          subst q1; subst q2
          obtain ⟨b1, b2, b3⟩ := z_vpin hx hc2 hc3 g4
          have hread := arrV_read (DA ek2) f b3
          have hsl : z_sl H a x.toInt.toNat (f x.toInt.toNat) := ⟨_, g3, rfl, hread⟩
          have h : (match z_efind st d j with
            | some w => some (z_stS st (w :: S))
            | none => (match z_seg sg r with
              | some c => some (z_ld st S c [] [(d, j, z_n st)])
              | none => none)) = some st' := h
          cases hf : z_efind st d j with
          | some w =>
            rw [hf] at h
            cases h
            obtain ⟨a2, v2, y1, y2, y3, cell, y4, y5, y6⟩ := z_efind_ok hf hs e3
            rw [g1] at y1
            cases y1
            rw [g3] at y4
            cases y4
            rw [hread] at y6
            cases y6
            exact ⟨a, n, f, x, k2, env, rfl, g3, b1, rfl, hread, z_sat_stS hs ⟨_, _, rfl, y2, hk2⟩⟩
          | none =>
            rw [hf] at h
            cases hsg : z_seg sg r with
            | none => rw [hsg] at h; cases h
            | some c1 =>
              rw [hsg] at h
              cases h
              unfold z_seg at hsg
              cases hfi : sg.find? (fun g => z_ile (g.1.1 : Int) r.1 && z_ile r.2 (g.1.2 : Int)) with
              | none => rw [hfi] at hsg; cases hsg
              | some g =>
                rw [hfi] at hsg
                cases hsg
                have hm := List.mem_of_find?_eq_some hfi
                have hp := List.find?_some hfi
                rw [Bool.and_eq_true] at hp
                have p1 := z_ile_ok hp.1
                have p2 := z_ile_ok hp.2
                obtain ⟨x1, x2⟩ := hx
                have hv := g7 g hm x.toInt.toNat b3 (by omega) (by omega)
                refine ⟨a, n, f, x, k2, _, rfl, g3, b1, rfl, hread, z_sat_ld hs hk2 hv (fun f hf => absurd hf List.not_mem_nil) (fun f2 hf2 => ?_)⟩
                rw [List.mem_singleton.mp hf2]
                exact ⟨a, x, _, z_app g1, z_app e3, b2, by rw [← hs.1]; simp, hsl⟩
      · cases h
    · cases h
  · cases h
theorem z_r_iald (hg : z_Good p l e R s m args below meth c Q OB D DA cl TY PHI sz raw pu T0 H0 env0 nL good) (hx : p.tables.exec = Jvm.exec) (hb : c.code = cc) (hD : z_Dy s m args Ts own D cl DA tys) (hd : decode cc pc = .ok (.iaload, 1)) (h : z_ald TY 0 st = some st') (k : good (pc + 1) st') : good pc st := by
  refine (hg _ _).mpr fun T H locs env ls stk hs => ?_
  obtain ⟨a, n, f, x, k2, env', rfl, h1, h2, h3, h4, h5⟩ := z_ald_ok (by omega) hD h hs
  refine W.iald hx hb h1 (z_isarr hD (k := 0) (by omega) n f) (fun q => by cases q) (by rw [arrV_size]; exact h2) h4 rfl rfl hd ?_
  have kk := (hg _ _).mp k T H locs env' ls _ h5
  rwa [h3] at kk
theorem z_r_bald (hg : z_Good p l e R s m args below meth c Q OB D DA cl TY PHI sz raw pu T0 H0 env0 nL good) (hx : p.tables.exec = Jvm.exec) (hb : c.code = cc) (hD : z_Dy s m args Ts own D cl DA tys) (hd : decode cc pc = .ok (.baload, 1)) (h : z_ald TY 1 st = some st') (k : good (pc + 1) st') : good pc st := by
  refine (hg _ _).mpr fun T H locs env ls stk hs => ?_
  obtain ⟨a, n, f, x, k2, env', rfl, h1, h2, h3, h4, h5⟩ := z_ald_ok (by omega) hD h hs
  refine W.bald hx hb h1 (z_isarr hD (k := 1) (by omega) n f) (fun q => by cases q) (by rw [arrV_size]; exact h2) h4 rfl rfl hd ?_
  have kk := (hg _ _).mp k T H locs env' ls _ h5
  rwa [h3] at kk
theorem z_r_lald (hg : z_Good p l e R s m args below meth c Q OB D DA cl TY PHI sz raw pu T0 H0 env0 nL good) (hx : p.tables.exec = Jvm.exec) (hb : c.code = cc) (hD : z_Dy s m args Ts own D cl DA tys) (hd : decode cc pc = .ok (.laload, 1)) (h : z_ald TY 2 st = some st') (k : good (pc + 1) st') : good pc st := by
  refine (hg _ _).mpr fun T H locs env ls stk hs => ?_
  obtain ⟨a, n, f, x, k2, env', rfl, h1, h2, h3, h4, h5⟩ := z_ald_ok (by omega) hD h hs
  refine W.lald hx hb h1 (z_isarr hD (k := 2) (by omega) n f) (fun q => by cases q) (by rw [arrV_size]; exact h2) h4 rfl rfl hd ?_
  have kk := (hg _ _).mp k T H locs env' ls _ h5
  rwa [h3] at kk
/-- an entry is set -/
theorem z_ast_ok (hpu : pu = false) {ek : Nat} (hek : ek < 3) (h : z_ast TY RO ek st = some st') (hs : z_sat OB D DA cl TY PHI sz raw pu T0 H0 env0 nL st T H locs env ls stk) :
    ∃ (a n : Nat) (f : Nat → Value) (x : Int32) (k : List Value) (v : Value), stk = v :: .int x :: .ref a :: k ∧ (ek < 2 → ∃ y : Int32, v = .int y) ∧ (ek = 2 → ∃ y : Int64, v = .long y) ∧ H[a]? = some (arrV (DA ek) n f) ∧ ¬ (x < 0 ∨ n ≤ x.toNatClampNeg) ∧ z_C st' = z_C st ∧
      ∀ H1 : Heap, H1[a]? = some ((arrV (DA ek) n f).setSlot x.toNatClampNeg (narrow (z_ek ek) v)) → H1.size = H.size → (∀ b : Nat, b ≠ a → H1[b]? = H[b]?) → z_sat OB D DA cl TY PHI sz raw pu T0 H0 env0 nL st' T H1 (locs ++ [⟨a, x.toNatClampNeg⟩]) env ls k := by
  unfold z_ast at h
  split at h
  · rename_i v j d S hS
    split at h
    · rename_i r t cv hj ht hcv
      split at h
      · rename_i q hq
        obtain ⟨hc, rfl⟩ := z_cond h
        simp only [Bool.and_eq_true] at hc
        obtain ⟨⟨⟨⟨hc1, hc2⟩, hc3⟩, hc4⟩, hc5⟩ := hc
        obtain ⟨ek2, ⟨lo, hi⟩, sg⟩ := q
        have he : ek2 = ek := z_beq hc1
        subst he
        obtain ⟨vv, k0, rfl, e0, hk0⟩ := z_stk_cons hS hs.2.2.2.1
        obtain ⟨vj, k1, rfl, e1, hk1⟩ := hk0
        obtain ⟨vd, k2, rfl, e2, hk2⟩ := hk1
        obtain ⟨a, n, f, g1, g2, g3, g4, g5, g6, g7⟩ := z_arr hs ht hq
        obtain ⟨w, e3, x, rfl, hx⟩ := z_get_ok hs.2.2.2.2.1 hj
        have q1 : vj = .int x := Option.some.inj (e1.symm.trans e3)
        have q2 : vd = .ref a := Option.some.inj (e2.symm.trans g1)
        subst q1; subst q2
        obtain ⟨b1, b2, b3⟩ := z_vpin hx hc2 hc3 g4
        cases hgv : z_get (z_V st) v with
        | none => rw [hgv] at hcv; cases hcv
        | some c0 =>
          rw [hgv] at hcv
          have hcv : z_kep ek2 c0 = some cv := hcv
          obtain ⟨w2, e4, hw2⟩ := z_get_ok hs.2.2.2.2.1 hgv
          have q3 : vv = w2 := Option.some.inj (e0.symm.trans e4)
          subst q3
          have hval : (ek2 < 2 → ∃ y : Int32, vv = .int y) ∧ (ek2 = 2 → ∃ y : Int64, vv = .long y) ∧ z_v OB T cv (narrow (z_ek ek2) vv) ∧ (ek2 ≠ 1 → narrow (z_ek ek2) vv = vv) := by
            match ek2, c0, hcv, hw2 with
            | 0, .inl r0, hcv, hw2 =>
              cases hcv
              obtain ⟨y, rfl, hy⟩ := hw2
              exact ⟨fun _ => ⟨y, rfl⟩, fun h => (by cases h), ⟨y, rfl, hy⟩, fun _ => rfl⟩
            | 1, .inl r0, hcv, hw2 =>
              cases hcv
              obtain ⟨y, rfl, hy⟩ := hw2
              exact ⟨fun _ => ⟨y, rfl⟩, fun h => (by cases h), ⟨_, rfl, z_i2b_ok hy⟩, fun h => absurd rfl h⟩
            | 2, .inr (.inr 0), hcv, hw2 =>
              cases hcv
              obtain ⟨y, rfl⟩ := hw2
              exact ⟨fun h => absurd h (by omega), fun _ => ⟨y, rfl⟩, ⟨y, rfl⟩, fun _ => rfl⟩
          obtain ⟨v1, v2, v3, v4⟩ := hval
          refine ⟨a, n, f, x, k2, vv, rfl, v1, v2, g3, b1, rfl, fun H1 h1 h2 h3 => ?_⟩
          have h1' : H1[a]? = some (arrV (DA ek2) n (updV f x.toNatClampNeg (narrow (z_ek ek2) vv))) := by rw [h1, arrV_store]
          have hcell : z_cell OB D DA cl T H1 a (.inr (ek2, (lo, hi), sg)) := by
            refine ⟨n, _, h1', g4, g5, g6, fun g hg i hi1 hi2 hi3 => ?_⟩
            by_cases hie : i = x.toNatClampNeg
            · have : updV f x.toNatClampNeg (narrow (z_ek ek2) vv) i = narrow (z_ek ek2) vv := by simp [updV, hie]
              rw [this]
              have hall := List.all_eq_true.mp hc5 g hg
              simp only [Bool.or_eq_true] at hall
              rw [z_clamp] at hie
              obtain ⟨x1, x2⟩ := hx
              rcases hall with (h5 | h5) | h5
              · have := z_ile_ok h5; omega
              · have := z_ile_ok h5; omega
              · exact z_le_ok h5 v3
            · have : updV f x.toNatClampNeg (narrow (z_ek ek2) vv) i = f i := by simp [updV, hie]
              rw [this]
              exact g7 g hg i hi1 hi2 hi3
          refine ⟨hs.1, hs.2.1, hs.2.2.1, hk2, hs.2.2.2.2.1, fun f1 hf => ?_, fun f1 hf => ?_, hs.2.2.2.2.2.2.2.1, z_fx_upd h3 (fun cC N iS V2 h5 => z_ob_set h5 g3 h1) hs.2.2.2.2.2.2.2.2.1, z_mem_set hpu hs.2.2.2.2.2.2.2.2.2 g2 hq hcell h2 h3 (fun _ _ _ _ _ hh => by cases hh) (zJ_set hs.2.2.2.2.2.2.2.2.2.1.2 hs.2.2.2.2.2.2.2.2.2.1.1 g2 (by simpa using hc4.2) h3 (fun ci fl hh => by rw [hq] at hh; cases hh))⟩
          · obtain ⟨hf1, hf2⟩ := List.mem_filter.mp hf
            obtain ⟨b, u, r2, y1, y2, y3, y4, y5⟩ := hs.2.2.2.2.2.1 f1 hf1
            exact ⟨b, u, r2, y1, y2, y3, y4, z_sl_kept y5 (h3 b (z_apt_ok hf2 hs y1 g1))⟩
          · rcases List.mem_append.mp hf with hf | hf
            · cases hb1 : Nat.beq ek2 1 with
              | true => rw [hb1] at hf; exact absurd hf List.not_mem_nil
              | false =>
                rw [hb1] at hf
                rw [List.mem_singleton.mp hf]
                have hne : ek2 ≠ 1 := fun h => by rw [h] at hb1; cases hb1
                refine ⟨a, x, vv, g1, e3, b2, e4, _, h1', rfl, ?_⟩
                rw [arrV_read _ _ b3, v4 hne]
                show some (if x.toInt.toNat = x.toNatClampNeg then vv else _) = _
                rw [if_pos (z_clamp x).symm]
            · obtain ⟨hf1, hf2⟩ := List.mem_filter.mp hf
              obtain ⟨b, x2, u, y1, y2, y3, y4, y5⟩ := hs.2.2.2.2.2.2.1 f1 hf1
              refine ⟨b, x2, u, y1, y2, y3, y4, ?_⟩
              rw [Bool.or_eq_true] at hf2
              rcases hf2 with h5 | h5
              · exact z_sl_kept y5 (h3 b (z_apt_ok h5 hs y1 g1))
              · by_cases hba : b = a
                · subst hba
                  have hxx := z_dis_ok h5 hs y2 e3
                  obtain ⟨cell, z1, z2, z3⟩ := y5
                  rw [g3] at z1
                  cases z1
                  refine ⟨_, h1, rfl, ?_⟩
                  rw [slot_ne _ _ (fun h6 => hxx (by rw [z_clamp] at h6; omega))]
                  exact z3
                · exact z_sl_kept y5 (h3 b hba)
      · cases h
    · cases h
  · cases h
theorem z_r_iast (hpu : pu = false) (hg : z_Good p l e R s m args below meth c Q OB D DA cl TY PHI sz raw pu T0 H0 env0 nL good) (hx : p.tables.exec = Jvm.exec) (hb : c.code = cc) (hD : z_Dy s m args Ts own D cl DA tys) (hd : decode cc pc = .ok (.iastore, 1)) (h : z_ast TY RO 0 st = some st') (k : good (pc + 1) st') : good pc st := by
  refine (hg _ _).mpr fun T H locs env ls stk hs => ?_
  obtain ⟨a, n, f, x, k2, v, rfl, h0, -, h1, h2, h3, h4⟩ := z_ast_ok hpu (by omega) h hs
  obtain ⟨y, rfl⟩ := h0 (by omega)
  refine W.iast hx hb h1 (z_isarr hD (k := 0) (by omega) n f) (fun q => by cases q) (by rw [arrV_size]; exact h2) rfl rfl hd fun H1 e1 e2 e3 => ?_
  have kk := (hg _ _).mp k T H1 _ env ls _ (h4 H1 e1 e2 e3)
  rwa [h3] at kk
theorem z_r_bast (hpu : pu = false) (hg : z_Good p l e R s m args below meth c Q OB D DA cl TY PHI sz raw pu T0 H0 env0 nL good) (hx : p.tables.exec = Jvm.exec) (hb : c.code = cc) (hD : z_Dy s m args Ts own D cl DA tys) (hd : decode cc pc = .ok (.bastore, 1)) (h : z_ast TY RO 1 st = some st') (k : good (pc + 1) st') : good pc st := by
  refine (hg _ _).mpr fun T H locs env ls stk hs => ?_
  obtain ⟨a, n, f, x, k2, v, rfl, h0, -, h1, h2, h3, h4⟩ := z_ast_ok hpu (by omega) h hs
  obtain ⟨y, rfl⟩ := h0 (by omega)
  refine W.bast hx hb h1 (z_isarr hD (k := 1) (by omega) n f) (fun q => by cases q) (by rw [arrV_size]; exact h2) rfl rfl hd fun H1 e1 e2 e3 => ?_
  have kk := (hg _ _).mp k T H1 _ env ls _ (h4 H1 e1 e2 e3)
  rwa [h3] at kk
theorem z_r_last (hpu : pu = false) (hg : z_Good p l e R s m args below meth c Q OB D DA cl TY PHI sz raw pu T0 H0 env0 nL good) (hx : p.tables.exec = Jvm.exec) (hb : c.code = cc) (hD : z_Dy s m args Ts own D cl DA tys) (hd : decode cc pc = .ok (.lastore, 1)) (h : z_ast TY RO 2 st = some st') (k : good (pc + 1) st') : good pc st := by
  refine (hg _ _).mpr fun T H locs env ls stk hs => ?_
  obtain ⟨a, n, f, x, k2, v, rfl, -, h0, h1, h2, h3, h4⟩ := z_ast_ok hpu (by omega) h hs
  obtain ⟨y, rfl⟩ := h0 rfl
  refine W.last hx hb h1 (z_isarr hD (k := 2) (by omega) n f) (fun q => by cases q) (by rw [arrV_size]; exact h2) rfl rfl hd fun H1 e1 e2 e3 => ?_
  have kk := (hg _ _).mp k T H1 _ env ls _ (h4 H1 e1 e2 e3)
  rwa [h3] at kk
theorem z_r_alen (hg : z_Good p l e R s m args below meth c Q OB D DA cl TY PHI sz raw pu T0 H0 env0 nL good) (hx : p.tables.exec = Jvm.exec) (hb : c.code = cc) (hD : z_Dy s m args Ts own D cl DA tys) (hd : decode cc pc = .ok (.arraylength, 1)) (h : z_alen TY st = some st') (k : good (pc + 1) st') : good pc st := by
  refine (hg _ _).mpr fun T H locs env ls stk hs => ?_
  unfold z_alen at h
  split at h
  · rename_i d S hS
    split at h
    · rename_i t ht
      split at h
      · rename_i q hq
        obtain ⟨hc, rfl⟩ := z_cond h
        obtain ⟨ek, ⟨lo, hi⟩, sg⟩ := q
        have hek : ek ≤ 2 := Nat.le_of_ble_eq_true hc
        obtain ⟨vd, k2, rfl, e2, hk2⟩ := z_stk_cons hS hs.2.2.2.1
        obtain ⟨a, n, f, g1, g2, g3, g4, g5, g6, g7⟩ := z_arr hs ht hq
        have q2 : vd = .ref a := Option.some.inj (e2.symm.trans g1)
        subst q2
        have hn : (Int32.ofNat n).toInt = (n : Int) := Int32.toInt_ofNat_of_lt (by omega)
        refine W.alen (n := Int32.ofNat n) hx hb g3 (z_isarr hD (k := ek) (by omega) n f) (by rw [arrV_size]) rfl rfl hd ?_
        exact (hg _ _).mp k T H locs _ ls _ (z_sat_psh hs hk2 (z_vi ⟨by rw [hn]; show (lo : Int) ≤ _; omega, by rw [hn]; show _ ≤ (hi : Int); omega⟩) (fun q hq => absurd hq List.not_mem_nil))
      · cases h
    · cases h
  · cases h
end ZARRAYS
