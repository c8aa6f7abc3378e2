/-! Instructions that leave the heap as it is. -/
def z_Good (p : Program) (l : Launch) (e : Env) (R : Room) (s : State) (m : MethodId) (args : Array Value) (below : List Frame) (meth : Method) (c : Code) (Q : State → Prop) (OB : Nat → Nat) (D : va_G) (DA : Nat → ClassId) (cl : List vw_C) (TY : List zTy) (PHI : List (List Nat)) (sz : Nat) (raw : Option Nat) (pu : Bool) (T0 : zTp) (H0 : Heap) (env0 : List Value) (nL : Nat) (good : Nat → zS → Prop) : Prop :=
  ∀ pc st, good pc st ↔ ∀ T H locs env ls stk, z_sat OB D DA cl TY PHI sz raw pu T0 H0 env0 nL st T H locs env ls stk → W p l e R s m args below meth c H locs (z_C st).1 (z_C st).2 Q (F0 m pc ls stk)
def z_noov (lo hi : Int) : Bool := z_ile (-2147483648) lo && z_ile hi 2147483647
def z_iconst (st : zS) (n : Int) : Option zS := cond (z_noov n n) (some (z_psh st (z_S st) (.inl (n, n)) [])) none
def z_bip (st : zS) (n : Int) : Option zS := cond (z_ile (-128) n && z_ile n 127) (some (z_psh st (z_S st) (.inl (n, n)) [])) none
def z_sip (st : zS) (n : Int) : Option zS := cond (z_ile (-32768) n && z_ile n 32767) (some (z_psh st (z_S st) (.inl (n, n)) [])) none
def z_iload (st : zS) (i : Nat) : Option zS := match z_loc (z_L st) i with
  | some d => (match z_get (z_V st) d with
    | some (.inl _) => some (z_stS st (d :: z_S st))
    | _ => none)
  | none => none
/-- a reference -/
def z_isr (st : zS) (d : Nat) : Bool := match z_get (z_V st) d with
  | some (.inr (.inl _)) => true
  | some (.inr (.inr (_ + 1))) => true
  | some _ => false
  | none => (z_X st).any (fun q => Nat.beq q.1 d)
def z_isi (st : zS) (d : Nat) : Bool := match z_get (z_V st) d with
  | some (.inl _) => true
  | _ => false
def z_aload (st : zS) (i : Nat) : Option zS := match z_loc (z_L st) i with
  | some d => cond (z_isr st d) (some (z_stS st (d :: z_S st))) none
  | none => none
def z_istore (nL : Nat) (st : zS) (i : Nat) : Option zS := match z_S st with
  | d :: S => cond (z_isi st d && Nat.blt i nL) (some (z_stL st S i d)) none
  | _ => none
def z_astore (nL : Nat) (st : zS) (i : Nat) : Option zS := match z_S st with
  | d :: S => cond (z_isr st d && Nat.blt i nL) (some (z_stL st S i d)) none
  | _ => none
def z_shc (st : zS) (a : zR) (x : Nat) (k : Int) : List (Nat × Nat × Int) := cond (z_noov (a.1 + k) (a.2 + k)) [(z_n st, x, k), (x, z_n st, -k)] []
def z_iinc (nL : Nat) (st : zS) (i : Nat) (k : Int) : Option zS := match z_loc (z_L st) i with
  | some d => (match z_get (z_V st) d with
    | some (.inl a) => cond (z_noov k k && Nat.blt i nL) (some (z_stL (z_psh st (z_S st) (.inl (z_add a (k, k))) (z_shc st a d k)) (z_S st) i (z_n st))) none
    | _ => none)
  | none => none
def z_bin (f : zR → zR → zR) (st : zS) : Option zS := match z_S st with
  | y :: x :: S => (match z_get (z_V st) x, z_get (z_V st) y with
    | some (.inl a), some (.inl b) => some (z_psh st S (.inl (f a b)) [])
    | _, _ => none)
  | _ => none
/-- as z_bin, where the second is not 0 -/
def z_bin0 (f : zR → zR → zR) (st : zS) : Option zS := match z_S st with
  | y :: x :: S => (match z_get (z_V st) x, z_get (z_V st) y with
    | some (.inl a), some (.inl b) => cond (z_ile 1 b.1 || z_ile b.2 (-1)) (some (z_psh st S (.inl (f a b)) [])) none
    | _, _ => none)
  | _ => none
def z_iadd (st : zS) : Option zS := match z_S st with
  | y :: x :: S => (match z_get (z_V st) x, z_get (z_V st) y with
    | some (.inl a), some (.inl b) => some (z_psh st S (.inl (z_add a b)) (cond (z_ile b.2 b.1) (z_shc st a x b.1) (cond (z_ile a.2 a.1) (z_shc st b y a.1) [])))
    | _, _ => none)
  | _ => none
def z_lb1 (R : List (Nat × Nat × Int)) (x y : Nat) (lo : Int) : Int := match z_lbs R 2 x y with
  | some k => z_max lo k
  | none => lo
def z_isub (st : zS) : Option zS := match z_S st with
  | y :: x :: S => (match z_get (z_V st) x, z_get (z_V st) y with
    | some (.inl a), some (.inl b) => some (z_psh st S (.inl (cond (z_noov (a.1 - b.2) (a.2 - b.1)) (z_lb1 (z_R st) x y (a.1 - b.2), -(z_lb1 (z_R st) y x (b.1 - a.2))) (z_sub a b))) (cond (z_ile b.2 b.1) (z_shc st a x (-b.1)) []))
    | _, _ => none)
  | _ => none
def z_un (f : zR → zR) (st : zS) : Option zS := match z_S st with
  | x :: S => (match z_get (z_V st) x with
    | some (.inl a) => some (z_psh st S (.inl (f a)) [])
    | _ => none)
  | _ => none
def z_dup (st : zS) : Option zS := match z_S st with
  | x :: S => cond (z_isi st x || z_isr st x) (some (z_stS st (x :: x :: S))) none
  | _ => none
def z_dupx1 (st : zS) : Option zS := match z_S st with
  | x :: y :: S => cond ((z_isi st x || z_isr st x) && (z_isi st y || z_isr st y)) (some (z_stS st (x :: y :: x :: S))) none
  | _ => none
def z_dup2 (st : zS) : Option zS := match z_S st with
  | x :: y :: S => cond ((z_isi st x || z_isr st x) && (z_isi st y || z_isr st y)) (some (z_stS st (x :: y :: x :: y :: S))) none
  | _ => none
def z_pop (st : zS) : Option zS := match z_S st with
  | x :: S => cond (z_isi st x || z_isr st x) (some (z_stS st S)) none
  | _ => none
section ZPURE
variable {p : Program} {l : Launch} {e : Env} {R : Room} {s : State} {m : MethodId} {args : Array Value} {below : List Frame} {meth : Method} {c : Code} {Q : State → Prop} {cc : ByteArray} {pc : Nat}
variable {OB : Nat → Nat} {D : va_G} {DA : Nat → ClassId} {cl : List vw_C} {TY : List zTy} {PHI : List (List Nat)} {sz : Nat} {raw : Option Nat} {pu : Bool} {T0 : zTp} {H0 : Heap} {env0 : List Value} {nL : Nat} {st st' : zS} {good : Nat → zS → Prop}
theorem z_noov_ok {a b : Int} (h : z_noov a b = true) : -2147483648 ≤ a ∧ b ≤ 2147483647 := by
  unfold z_noov at h
  rw [Bool.and_eq_true] at h
  exact ⟨z_ile_ok h.1, z_ile_ok h.2⟩
theorem z_cond {α : Type} {b : Bool} {x : α} {y : α} (h : cond b (some x) none = some y) : b = true ∧ x = y := by
  cases b with
  | true => exact ⟨rfl, Option.some.inj h⟩
  | false => cases h
theorem z_r_iconst (hg : z_Good p l e R s m args below meth c Q OB D DA cl TY PHI sz raw pu T0 H0 env0 nL good) (hx : p.tables.exec = Jvm.exec) (hb : c.code = cc) {n : Int} (hd : decode cc pc = .ok (.iconst n, 1)) (h : z_iconst st n = some st') (k : good (pc + 1) st') : good pc st := by
  obtain ⟨h1, rfl⟩ := z_cond h
  obtain ⟨q1, q2⟩ := z_noov_ok h1
  refine (hg _ _).mpr fun T H locs env ls stk hs => ?_
  have hv : (Int32.ofInt n).toInt = n := Int32.toInt_ofInt_of_le (by omega) (by omega)
  exact lv_iconst hx hb hd rfl ((hg _ _).mp k T H locs _ ls _ (z_sat_psh hs hs.2.2.2.1 (c := .inl (n, n)) (v := .int (Int32.ofInt n)) ⟨_, rfl, by rw [z_in, hv]; exact ⟨Int.le_refl _, Int.le_refl _⟩⟩ (fun q hq => absurd hq List.not_mem_nil)))
theorem z_r_bip (hg : z_Good p l e R s m args below meth c Q OB D DA cl TY PHI sz raw pu T0 H0 env0 nL good) (hx : p.tables.exec = Jvm.exec) (hb : c.code = cc) {n : Int} (hd : decode cc pc = .ok (.bipush n, 2)) (h : z_bip st n = some st') (k : good (pc + 2) st') : good pc st := by
  obtain ⟨h1, rfl⟩ := z_cond h
  rw [Bool.and_eq_true] at h1
  have q1 := z_ile_ok h1.1
  have q2 := z_ile_ok h1.2
  refine (hg _ _).mpr fun T H locs env ls stk hs => ?_
  have hv : ((Int8.ofInt n).toInt32).toInt = n := by rw [Int8.toInt_toInt32]; exact Int8.toInt_ofInt_of_le (by omega) (by omega)
  exact lv_bipush hx hb hd rfl ((hg _ _).mp k T H locs _ ls _ (z_sat_psh hs hs.2.2.2.1 (c := .inl (n, n)) (v := .int ((Int8.ofInt n).toInt32)) ⟨_, rfl, by rw [z_in, hv]; exact ⟨Int.le_refl _, Int.le_refl _⟩⟩ (fun q hq => absurd hq List.not_mem_nil)))
theorem z_r_sip (hg : z_Good p l e R s m args below meth c Q OB D DA cl TY PHI sz raw pu T0 H0 env0 nL good) (hx : p.tables.exec = Jvm.exec) (hb : c.code = cc) {n : Int} (hd : decode cc pc = .ok (.sipush n, 3)) (h : z_sip st n = some st') (k : good (pc + 3) st') : good pc st := by
  obtain ⟨h1, rfl⟩ := z_cond h
  rw [Bool.and_eq_true] at h1
  have q1 := z_ile_ok h1.1
  have q2 := z_ile_ok h1.2
  refine (hg _ _).mpr fun T H locs env ls stk hs => ?_
  have hv : ((Int16.ofInt n).toInt32).toInt = n := by rw [Int16.toInt_toInt32]; exact Int16.toInt_ofInt_of_le (by omega) (by omega)
  exact lv_sipush hx hb hd rfl ((hg _ _).mp k T H locs _ ls _ (z_sat_psh hs hs.2.2.2.1 (c := .inl (n, n)) (v := .int ((Int16.ofInt n).toInt32)) ⟨_, rfl, by rw [z_in, hv]; exact ⟨Int.le_refl _, Int.le_refl _⟩⟩ (fun q hq => absurd hq List.not_mem_nil)))
theorem z_r_ldc (hg : z_Good p l e R s m args below meth c Q OB D DA cl TY PHI sz raw pu T0 H0 env0 nL good) (hx : p.tables.exec = Jvm.exec) (hb : c.code = cc) {own : String} {i : Nat} {v : Int32} (hown : s.vm.findClass own = some m.cls) (hc : (Jvm.Cond.constant own i v).before args s = true) (hd : decode cc pc = .ok (.ldc i, 2)) (h : z_iconst st v.toInt = some st') (k : good (pc + 2) st') : good pc st := by
  obtain ⟨h1, rfl⟩ := z_cond h
  refine (hg _ _).mpr fun T H locs env ls stk hs => ?_
  exact lv_ldc hx hb hown hc hd ((hg _ _).mp k T H locs _ ls _ (z_sat_psh hs hs.2.2.2.1 (c := .inl (v.toInt, v.toInt)) (v := .int v) ⟨_, rfl, Int.le_refl _, Int.le_refl _⟩ (fun q hq => absurd hq List.not_mem_nil)))
theorem z_r_ldcw (hg : z_Good p l e R s m args below meth c Q OB D DA cl TY PHI sz raw pu T0 H0 env0 nL good) (hx : p.tables.exec = Jvm.exec) (hb : c.code = cc) {own : String} {i : Nat} {v : Int32} (hown : s.vm.findClass own = some m.cls) (hc : (Jvm.Cond.constant own i v).before args s = true) (hd : decode cc pc = .ok (.ldc_w i, 3)) (h : z_iconst st v.toInt = some st') (k : good (pc + 3) st') : good pc st := by
  obtain ⟨h1, rfl⟩ := z_cond h
  refine (hg _ _).mpr fun T H locs env ls stk hs => ?_
  exact lv_ldcw hx hb hown hc hd ((hg _ _).mp k T H locs _ ls _ (z_sat_psh hs hs.2.2.2.1 (c := .inl (v.toInt, v.toInt)) (v := .int v) ⟨_, rfl, Int.le_refl _, Int.le_refl _⟩ (fun q hq => absurd hq List.not_mem_nil)))
theorem z_iload_ok {T : zTp} {H : Heap} {locs : List Loc} {env : List Value} {ls : Array Slot} {stk : List Value} {i : Nat} (h : z_iload st i = some st') (hs : z_sat OB D DA cl TY PHI sz raw pu T0 H0 env0 nL st T H locs env ls stk) : ∃ x : Int32, ls[i]? = some (.val (.int x)) ∧ z_C st' = z_C st ∧ z_sat OB D DA cl TY PHI sz raw pu T0 H0 env0 nL st' T H locs env ls (.int x :: stk) := by
  unfold z_iload at h
  split at h
  · rename_i d hd
    split at h
    · rename_i a ha
      cases h
      obtain ⟨v, e1, x, rfl, hx⟩ := z_get_ok hs.2.2.2.2.1 ha
      obtain ⟨lv, g1, g2, g3⟩ := hs.2.2.1
      obtain ⟨v', e2, hm⟩ := g3 _ (z_loc_mem hd)
      have : v' = .int x := Option.some.inj (e2.symm.trans e1)
      subst this
      exact ⟨x, g1.2.2 _ hm, rfl, z_sat_stS hs ⟨_, _, rfl, e1, hs.2.2.2.1⟩⟩
    · cases h
  · cases h
theorem z_isr_ok {T : zTp} {H : Heap} {locs : List Loc} {env : List Value} {ls : Array Slot} {stk : List Value} {d : Nat} (h : z_isr st d = true) (hs : z_sat OB D DA cl TY PHI sz raw pu T0 H0 env0 nL st T H locs env ls stk) : ∃ a : Nat, env[d]? = some (.ref a) := by
  unfold z_isr at h
  split at h
  · rename_i t ht
    obtain ⟨v, e1, a, rfl, ha⟩ := z_get_ok hs.2.2.2.2.1 ht
    exact ⟨a, e1⟩
  · rename_i k hk
    obtain ⟨v, e1, h1⟩ := z_get_ok hs.2.2.2.2.1 hk
    have h1 : v = .ref (OB (k + 1 - 1)) := h1
    exact ⟨_, by rw [e1, h1]⟩
  · cases h
  · obtain ⟨q, hq, hq2⟩ := List.any_eq_true.mp h
    obtain ⟨a, h1, _⟩ := z_fx_in hs.2.2.2.2.2.2.2.2.1 q hq
    rw [z_beq hq2] at h1
    exact ⟨a, h1⟩
theorem z_isi_ok {T : zTp} {H : Heap} {locs : List Loc} {env : List Value} {ls : Array Slot} {stk : List Value} {d : Nat} (h : z_isi st d = true) (hs : z_sat OB D DA cl TY PHI sz raw pu T0 H0 env0 nL st T H locs env ls stk) : ∃ x : Int32, env[d]? = some (.int x) := by
  unfold z_isi at h
  split at h
  · rename_i t ht
    obtain ⟨v, e1, x, rfl, hx⟩ := z_get_ok hs.2.2.2.2.1 ht
    exact ⟨x, e1⟩
  · cases h
theorem z_aload_ok {T : zTp} {H : Heap} {locs : List Loc} {env : List Value} {ls : Array Slot} {stk : List Value} {i : Nat} (h : z_aload st i = some st') (hs : z_sat OB D DA cl TY PHI sz raw pu T0 H0 env0 nL st T H locs env ls stk) : ∃ x : Nat, ls[i]? = some (.val (.ref x)) ∧ z_C st' = z_C st ∧ z_sat OB D DA cl TY PHI sz raw pu T0 H0 env0 nL st' T H locs env ls (.ref x :: stk) := by
  unfold z_aload at h
  split at h
  · rename_i d hd
    obtain ⟨h1, rfl⟩ := z_cond h
    obtain ⟨x, e1⟩ := z_isr_ok h1 hs
    obtain ⟨lv, g1, g2, g3⟩ := hs.2.2.1
    obtain ⟨v', e2, hm⟩ := g3 _ (z_loc_mem hd)
    have : v' = .ref x := Option.some.inj (e2.symm.trans e1)
    subst this
    exact ⟨x, g1.2.2 _ hm, rfl, z_sat_stS hs ⟨_, _, rfl, e1, hs.2.2.2.1⟩⟩
  · cases h
end ZPURE
