/-! Rows of more instructions that leave the heap as it is. -/
section ZPURE2
variable {p : Program} {l : Launch} {e : Env} {R : Room} {s : State} {m : MethodId} {args : Array Value} {below : List Frame} {meth : Method} {c : Code} {Q : State → Prop} {cc : ByteArray} {pc : Nat}
variable {OB : Nat → Nat} {D : va_G} {DA : Nat → ClassId} {cl : List vw_C} {TY : List zTy} {PHI : List (List Nat)} {sz : Nat} {raw : Option Nat} {pu : Bool} {T0 : zTp} {H0 : Heap} {env0 : List Value} {nL : Nat} {st st' : zS} {good : Nat → zS → Prop}
theorem z_vi {OB : Nat → Nat} {T : zTp} {r : zR} {x : Int32} (h : z_in r x) : z_v OB T (.inl r) (.int x) := ⟨_, rfl, h⟩
theorem z_r_iload (hg : z_Good p l e R s m args below meth c Q OB D DA cl TY PHI sz raw pu T0 H0 env0 nL good) (hx : p.tables.exec = Jvm.exec) (hb : c.code = cc) {i : Nat} (hd : decode cc pc = .ok (.iload i, 2)) (h : z_iload st i = some st') (k : good (pc + 2) st') : good pc st := by
  refine (hg _ _).mpr fun T H locs env ls stk hs => ?_
  obtain ⟨x, h1, h2, h3⟩ := z_iload_ok h hs
  have kk := (hg _ _).mp k T H locs _ ls _ h3
  rw [h2] at kk
  exact lv_iload hx hb hd h1 kk
theorem z_r_iload_n (hg : z_Good p l e R s m args below meth c Q OB D DA cl TY PHI sz raw pu T0 H0 env0 nL good) (hx : p.tables.exec = Jvm.exec) (hb : c.code = cc) {i : Fin 4} (hd : decode cc pc = .ok (.iload_n i, 1)) (h : z_iload st i.val = some st') (k : good (pc + 1) st') : good pc st := by
  refine (hg _ _).mpr fun T H locs env ls stk hs => ?_
  obtain ⟨x, h1, h2, h3⟩ := z_iload_ok h hs
  have kk := (hg _ _).mp k T H locs _ ls _ h3
  rw [h2] at kk
  exact lv_iload_n hx hb hd rfl h1 kk
theorem z_r_aload (hg : z_Good p l e R s m args below meth c Q OB D DA cl TY PHI sz raw pu T0 H0 env0 nL good) (hx : p.tables.exec = Jvm.exec) (hb : c.code = cc) {i : Nat} (hd : decode cc pc = .ok (.aload i, 2)) (h : z_aload st i = some st') (k : good (pc + 2) st') : good pc st := by
  refine (hg _ _).mpr fun T H locs env ls stk hs => ?_
  obtain ⟨x, h1, h2, h3⟩ := z_aload_ok h hs
  have kk := (hg _ _).mp k T H locs _ ls _ h3
  rw [h2] at kk
  exact lv_aload hx hb hd h1 kk
theorem z_r_aload_n (hg : z_Good p l e R s m args below meth c Q OB D DA cl TY PHI sz raw pu T0 H0 env0 nL good) (hx : p.tables.exec = Jvm.exec) (hb : c.code = cc) {i : Fin 4} (hd : decode cc pc = .ok (.aload_n i, 1)) (h : z_aload st i.val = some st') (k : good (pc + 1) st') : good pc st := by
  refine (hg _ _).mpr fun T H locs env ls stk hs => ?_
  obtain ⟨x, h1, h2, h3⟩ := z_aload_ok h hs
  have kk := (hg _ _).mp k T H locs _ ls _ h3
  rw [h2] at kk
  exact lv_aload_n hx hb hd rfl h1 kk
theorem z_stk_cons {env : List Value} {d : Nat} {S : List Nat} {stk : List Value} {st : zS} (hS : z_S st = d :: S) (h : z_stk env (z_S st) stk) : ∃ v k, stk = v :: k ∧ env[d]? = some v ∧ z_stk env S k := by
  rw [hS] at h; exact h
theorem z_blt {a b : Nat} (h : Nat.blt a b = true) : a < b := by
  unfold Nat.blt at h
  exact Nat.le_of_ble_eq_true h
theorem z_istore_ok {T : zTp} {H : Heap} {locs : List Loc} {env : List Value} {ls : Array Slot} {stk : List Value} {i : Nat} (h : z_istore nL st i = some st') (hs : z_sat OB D DA cl TY PHI sz raw pu T0 H0 env0 nL st T H locs env ls stk) : ∃ (x : Int32) (k : List Value) (lv : List (Nat × Value)), stk = .int x :: k ∧ i < nL ∧ lv_has ls nL lv ∧ z_C st' = z_C st ∧ ∀ ls', lv_has ls' nL ((i, .int x) :: lv.filter (fun q => !(q.1 == i) && !(q.1 + 1 == i && q.2.category == 2))) → z_sat OB D DA cl TY PHI sz raw pu T0 H0 env0 nL st' T H locs env ls' k := by
  unfold z_istore at h
  split at h
  · rename_i d S hS
    obtain ⟨h1, rfl⟩ := z_cond h
    rw [Bool.and_eq_true] at h1
    obtain ⟨x, e1⟩ := z_isi_ok h1.1 hs
    obtain ⟨v, k, rfl, e2, hk⟩ := z_stk_cons hS hs.2.2.2.1
    have : v = .int x := Option.some.inj (e2.symm.trans e1)
    subst this
    obtain ⟨lv, g1, g2, g3⟩ := hs.2.2.1
    exact ⟨x, k, lv, rfl, z_blt h1.2, g1, rfl, fun ls' hl => z_sat_stL hs hk (z_ls_set g2 g3 e1 rfl hl)⟩
  · cases h
theorem z_astore_ok {T : zTp} {H : Heap} {locs : List Loc} {env : List Value} {ls : Array Slot} {stk : List Value} {i : Nat} (h : z_astore nL st i = some st') (hs : z_sat OB D DA cl TY PHI sz raw pu T0 H0 env0 nL st T H locs env ls stk) : ∃ (x : Nat) (k : List Value) (lv : List (Nat × Value)), stk = .ref x :: k ∧ i < nL ∧ lv_has ls nL lv ∧ z_C st' = z_C st ∧ ∀ ls', lv_has ls' nL ((i, .ref x) :: lv.filter (fun q => !(q.1 == i) && !(q.1 + 1 == i && q.2.category == 2))) → z_sat OB D DA cl TY PHI sz raw pu T0 H0 env0 nL st' T H locs env ls' k := by
  unfold z_astore at h
  split at h
  · rename_i d S hS
    obtain ⟨h1, rfl⟩ := z_cond h
    rw [Bool.and_eq_true] at h1
    obtain ⟨x, e1⟩ := z_isr_ok h1.1 hs
    obtain ⟨v, k, rfl, e2, hk⟩ := z_stk_cons hS hs.2.2.2.1
    have : v = .ref x := Option.some.inj (e2.symm.trans e1)
    subst this
    obtain ⟨lv, g1, g2, g3⟩ := hs.2.2.1
    exact ⟨x, k, lv, rfl, z_blt h1.2, g1, rfl, fun ls' hl => z_sat_stL hs hk (z_ls_set g2 g3 e1 rfl hl)⟩
  · cases h
theorem z_r_istore (hg : z_Good p l e R s m args below meth c Q OB D DA cl TY PHI sz raw pu T0 H0 env0 nL good) (hx : p.tables.exec = Jvm.exec) (hb : c.code = cc) {i : Nat} (hd : decode cc pc = .ok (.istore i, 2)) (h : z_istore nL st i = some st') (k : good (pc + 2) st') : good pc st := by
  refine (hg _ _).mpr fun T H locs env ls stk hs => ?_
  obtain ⟨x, k2, lv, rfl, h1, h2, h3, h4⟩ := z_istore_ok h hs
  refine lv_istore hx hb hd h2 h1 rfl fun ls' hl => ?_
  have kk := (hg _ _).mp k T H locs _ ls' _ (h4 ls' hl)
  rwa [h3] at kk
theorem z_r_istore_n (hg : z_Good p l e R s m args below meth c Q OB D DA cl TY PHI sz raw pu T0 H0 env0 nL good) (hx : p.tables.exec = Jvm.exec) (hb : c.code = cc) {i : Fin 4} (hd : decode cc pc = .ok (.istore_n i, 1)) (h : z_istore nL st i.val = some st') (k : good (pc + 1) st') : good pc st := by
  refine (hg _ _).mpr fun T H locs env ls stk hs => ?_
  obtain ⟨x, k2, lv, rfl, h1, h2, h3, h4⟩ := z_istore_ok h hs
  refine lv_istore_n hx hb hd rfl h2 h1 rfl fun ls' hl => ?_
  have kk := (hg _ _).mp k T H locs _ ls' _ (h4 ls' hl)
  rwa [h3] at kk
theorem z_r_astore (hg : z_Good p l e R s m args below meth c Q OB D DA cl TY PHI sz raw pu T0 H0 env0 nL good) (hx : p.tables.exec = Jvm.exec) (hb : c.code = cc) {i : Nat} (hd : decode cc pc = .ok (.astore i, 2)) (h : z_astore nL st i = some st') (k : good (pc + 2) st') : good pc st := by
  refine (hg _ _).mpr fun T H locs env ls stk hs => ?_
  obtain ⟨x, k2, lv, rfl, h1, h2, h3, h4⟩ := z_astore_ok h hs
  refine lv_astore hx hb hd h2 h1 rfl fun ls' hl => ?_
  have kk := (hg _ _).mp k T H locs _ ls' _ (h4 ls' hl)
  rwa [h3] at kk
theorem z_r_astore_n (hg : z_Good p l e R s m args below meth c Q OB D DA cl TY PHI sz raw pu T0 H0 env0 nL good) (hx : p.tables.exec = Jvm.exec) (hb : c.code = cc) {i : Fin 4} (hd : decode cc pc = .ok (.astore_n i, 1)) (h : z_astore nL st i.val = some st') (k : good (pc + 1) st') : good pc st := by
  refine (hg _ _).mpr fun T H locs env ls stk hs => ?_
  obtain ⟨x, k2, lv, rfl, h1, h2, h3, h4⟩ := z_astore_ok h hs
  refine lv_astore_n hx hb hd rfl h2 h1 rfl fun ls' hl => ?_
  have kk := (hg _ _).mp k T H locs _ ls' _ (h4 ls' hl)
  rwa [h3] at kk
/-- a sum with a constant, where nothing runs over -/
theorem z_shc_ok {env : List Value} {a : zR} {d : Nat} {k : Int} {x v : Int32} (hn : env.length = z_n st) (hd : env[d]? = some (.int x)) (hx : z_in a x) (hv : v.toInt = (x.toInt + k).bmod (2 ^ 32)) : z_fr (env ++ [.int v]) (z_shc st a d k) := by
  unfold z_shc
  cases hc : z_noov (a.1 + k) (a.2 + k) with
  | false => exact fun q hq => absurd hq List.not_mem_nil
  | true =>
    obtain ⟨h1, h2⟩ := z_noov_ok hc
    have e : v.toInt = x.toInt + k := by
      rw [hv]; exact z_bmod (by have := hx.1; omega) (by have := hx.2; omega)
    have e1 : (env ++ [.int v])[z_n st]? = some (.int v) := by rw [← hn]; simp
    intro q hq
    rcases List.mem_cons.mp hq with rfl | hq
    · exact ⟨x, v, e1, z_app hd, by show x.toInt + k ≤ _; omega⟩
    · rw [List.mem_singleton.mp hq]
      exact ⟨v, x, z_app hd, e1, by show v.toInt + -k ≤ _; omega⟩
theorem z_r_iinc (hg : z_Good p l e R s m args below meth c Q OB D DA cl TY PHI sz raw pu T0 H0 env0 nL good) (hx : p.tables.exec = Jvm.exec) (hb : c.code = cc) {i : Nat} {n : Int} (hd : decode cc pc = .ok (.iinc i n, 3)) (h : z_iinc nL st i n = some st') (k : good (pc + 3) st') : good pc st := by
  refine (hg _ _).mpr fun T H locs env ls stk hs => ?_
  unfold z_iinc at h
  split at h
  · rename_i d hdl
    split at h
    · rename_i a ha
      obtain ⟨h1, rfl⟩ := z_cond h
      rw [Bool.and_eq_true] at h1
      obtain ⟨v, e1, x, rfl, hxa⟩ := z_get_ok hs.2.2.2.2.1 ha
      obtain ⟨lv, g1, g2, g3⟩ := hs.2.2.1
      obtain ⟨v', e2, hm⟩ := g3 _ (z_loc_mem hdl)
      have : v' = .int x := Option.some.inj (e2.symm.trans e1)
      subst this
      obtain ⟨j, hj⟩ := List.getElem?_of_mem hm
      have hn2 := z_noov_ok h1.1
      have hv : (Int32.ofInt n).toInt = n := Int32.toInt_ofInt_of_le (by omega) (by omega)
      have hin : z_in (z_add a (n, n)) (x + Int32.ofInt n) := z_add_ok hxa ⟨by rw [hv]; exact Int.le_refl _, by rw [hv]; exact Int.le_refl _⟩
      refine lv_iinc hx hb hd g1 hj rfl (z_blt h1.2) rfl fun ls' hl => ?_
      have hp := z_sat_psh hs hs.2.2.2.1 (c := .inl (z_add a (n, n))) (v := .int (x + Int32.ofInt n)) ⟨_, rfl, hin⟩ (rs := z_shc st a d n) (z_shc_ok hs.1 e1 hxa (by rw [Int32.toInt_add, hv]))
      refine (hg _ _).mp k T H locs _ ls' _ (z_sat_stL hp (z_stk_app hs.2.2.2.1) ?_)
      exact z_ls_set g2 (fun q hq => by obtain ⟨w, ew, mw⟩ := g3 q hq; exact ⟨w, z_app ew, mw⟩) (by rw [← hs.1]; simp) rfl hl
    · cases h
  · cases h
theorem z_bin_ok {T : zTp} {H : Heap} {locs : List Loc} {env : List Value} {ls : Array Slot} {stk : List Value} {f : zR → zR → zR} {op : Int32 → Int32 → Int32} (hf : ∀ a b x y, z_in a x → z_in b y → z_in (f a b) (op x y)) (h : z_bin f st = some st') (hs : z_sat OB D DA cl TY PHI sz raw pu T0 H0 env0 nL st T H locs env ls stk) : ∃ (x y : Int32) (k : List Value), stk = .int y :: .int x :: k ∧ z_C st' = z_C st ∧ z_sat OB D DA cl TY PHI sz raw pu T0 H0 env0 nL st' T H locs (env ++ [.int (op x y)]) ls (.int (op x y) :: k) := by
  unfold z_bin at h
  split at h
  · rename_i yy xx S hS
    split at h
    · rename_i a b ha hb2
      cases h
      obtain ⟨vy, k, rfl, e1, hk⟩ := z_stk_cons hS hs.2.2.2.1
      obtain ⟨vx, k2, rfl, e2, hk2⟩ := hk
      obtain ⟨v, e3, x, rfl, hxa⟩ := z_get_ok hs.2.2.2.2.1 ha
      obtain ⟨w, e4, y, rfl, hyb⟩ := z_get_ok hs.2.2.2.2.1 hb2
      have q1 : vx = .int x := Option.some.inj (e2.symm.trans e3)
      have q2 : vy = .int y := Option.some.inj (e1.symm.trans e4)
      subst q1; subst q2
      exact ⟨x, y, k2, rfl, rfl, z_sat_psh hs hk2 (z_vi (hf _ _ _ _ hxa hyb)) (fun q hq => absurd hq List.not_mem_nil)⟩
    · cases h
  · cases h
theorem z_bin0_ok {T : zTp} {H : Heap} {locs : List Loc} {env : List Value} {ls : Array Slot} {stk : List Value} {f : zR → zR → zR} {op : Int32 → Int32 → Int32} (hf : ∀ a b x y, z_in a x → z_in b y → z_in (f a b) (op x y)) (h : z_bin0 f st = some st') (hs : z_sat OB D DA cl TY PHI sz raw pu T0 H0 env0 nL st T H locs env ls stk) : ∃ (x y : Int32) (k : List Value), stk = .int y :: .int x :: k ∧ ¬ y = 0 ∧ z_C st' = z_C st ∧ z_sat OB D DA cl TY PHI sz raw pu T0 H0 env0 nL st' T H locs (env ++ [.int (op x y)]) ls (.int (op x y) :: k) := by
  unfold z_bin0 at h
  split at h
  · rename_i yy xx S hS
    split at h
    · rename_i a b ha hb2
      obtain ⟨h1, rfl⟩ := z_cond h
      obtain ⟨vy, k, rfl, e1, hk⟩ := z_stk_cons hS hs.2.2.2.1
      obtain ⟨vx, k2, rfl, e2, hk2⟩ := hk
      obtain ⟨v, e3, x, rfl, hxa⟩ := z_get_ok hs.2.2.2.2.1 ha
      obtain ⟨w, e4, y, rfl, hyb⟩ := z_get_ok hs.2.2.2.2.1 hb2
      have q1 : vx = .int x := Option.some.inj (e2.symm.trans e3)
      have q2 : vy = .int y := Option.some.inj (e1.symm.trans e4)
      subst q1; subst q2
      refine ⟨x, y, k2, rfl, ?_, rfl, z_sat_psh hs hk2 (z_vi (hf _ _ _ _ hxa hyb)) (fun q hq => absurd hq List.not_mem_nil)⟩
      intro hy0
      have hz : y.toInt = 0 := by rw [hy0]; rfl
      rw [Bool.or_eq_true] at h1
      rcases h1 with h1 | h1
      · have := z_ile_ok h1; have := hyb.1; omega
      · have := z_ile_ok h1; have := hyb.2; omega
    · cases h
  · cases h
theorem z_un_ok {T : zTp} {H : Heap} {locs : List Loc} {env : List Value} {ls : Array Slot} {stk : List Value} {f : zR → zR} {op : Int32 → Int32} (hf : ∀ a x, z_in a x → z_in (f a) (op x)) (h : z_un f st = some st') (hs : z_sat OB D DA cl TY PHI sz raw pu T0 H0 env0 nL st T H locs env ls stk) : ∃ (x : Int32) (k : List Value), stk = .int x :: k ∧ z_C st' = z_C st ∧ z_sat OB D DA cl TY PHI sz raw pu T0 H0 env0 nL st' T H locs (env ++ [.int (op x)]) ls (.int (op x) :: k) := by
  unfold z_un at h
  split at h
  · rename_i xx S hS
    split at h
    · rename_i a ha
      cases h
      obtain ⟨vx, k2, rfl, e2, hk2⟩ := z_stk_cons hS hs.2.2.2.1
      obtain ⟨v, e3, x, rfl, hxa⟩ := z_get_ok hs.2.2.2.2.1 ha
      have q1 : vx = .int x := Option.some.inj (e2.symm.trans e3)
      subst q1
      exact ⟨x, k2, rfl, rfl, z_sat_psh hs hk2 (z_vi (hf _ _ hxa)) (fun q hq => absurd hq List.not_mem_nil)⟩
    · cases h
  · cases h
theorem z_iadd_ok {T : zTp} {H : Heap} {locs : List Loc} {env : List Value} {ls : Array Slot} {stk : List Value} (h : z_iadd st = some st') (hs : z_sat OB D DA cl TY PHI sz raw pu T0 H0 env0 nL st T H locs env ls stk) : ∃ (x y : Int32) (k : List Value), stk = .int y :: .int x :: k ∧ z_C st' = z_C st ∧ z_sat OB D DA cl TY PHI sz raw pu T0 H0 env0 nL st' T H locs (env ++ [.int (x + y)]) ls (.int (x + y) :: k) := by
  unfold z_iadd at h
  split at h
  · rename_i yy xx S hS
    split at h
    · rename_i a b ha hb2
      cases h
      obtain ⟨vy, k, rfl, e1, hk⟩ := z_stk_cons hS hs.2.2.2.1
      obtain ⟨vx, k2, rfl, e2, hk2⟩ := hk
      obtain ⟨v, e3, x, rfl, hxa⟩ := z_get_ok hs.2.2.2.2.1 ha
      obtain ⟨w, e4, y, rfl, hyb⟩ := z_get_ok hs.2.2.2.2.1 hb2
      have q1 : vx = .int x := Option.some.inj (e2.symm.trans e3)
      have q2 : vy = .int y := Option.some.inj (e1.symm.trans e4)
      subst q1; subst q2
      refine ⟨x, y, k2, rfl, rfl, z_sat_psh hs hk2 (z_vi (z_add_ok hxa hyb)) ?_⟩
      cases hc : z_ile b.2 b.1 with
      | true =>
        have hy : y.toInt = b.1 := by have := z_ile_ok hc; have := hyb.1; have := hyb.2; omega
        exact z_shc_ok hs.1 e3 hxa (by rw [Int32.toInt_add, hy])
      | false =>
        cases hc2 : z_ile a.2 a.1 with
        | true =>
          have hy : x.toInt = a.1 := by have := z_ile_ok hc2; have := hxa.1; have := hxa.2; omega
          exact z_shc_ok hs.1 e4 hyb (by rw [Int32.toInt_add, hy, Int.add_comm])
        | false => exact fun q hq => absurd hq List.not_mem_nil
    · cases h
  · cases h
theorem z_lb1_ok {env : List Value} {Rr : List (Nat × Nat × Int)} (hr : z_fr env Rr) {x y : Nat} {vx vy : Int32} {lo : Int} (h1 : env[x]? = some (.int vx)) (h2 : env[y]? = some (.int vy)) (hlo : lo ≤ vx.toInt - vy.toInt) : z_lb1 Rr x y lo ≤ vx.toInt - vy.toInt := by
  unfold z_lb1
  split
  · rename_i k hk
    obtain ⟨v, e1, e2⟩ := z_lbs_ok hr hk h1
    have : v = vy := by have := e1.symm.trans h2; cases this; rfl
    subst this
    unfold z_max
    split <;> omega
  · exact hlo
theorem z_isub_ok {T : zTp} {H : Heap} {locs : List Loc} {env : List Value} {ls : Array Slot} {stk : List Value} (h : z_isub st = some st') (hs : z_sat OB D DA cl TY PHI sz raw pu T0 H0 env0 nL st T H locs env ls stk) : ∃ (x y : Int32) (k : List Value), stk = .int y :: .int x :: k ∧ z_C st' = z_C st ∧ z_sat OB D DA cl TY PHI sz raw pu T0 H0 env0 nL st' T H locs (env ++ [.int (x - y)]) ls (.int (x - y) :: k) := by
  unfold z_isub at h
  split at h
  · rename_i yy xx S hS
    split at h
    · rename_i a b ha hb2
      cases h
      obtain ⟨vy, k, rfl, e1, hk⟩ := z_stk_cons hS hs.2.2.2.1
      obtain ⟨vx, k2, rfl, e2, hk2⟩ := hk
      obtain ⟨v, e3, x, rfl, hxa⟩ := z_get_ok hs.2.2.2.2.1 ha
      obtain ⟨w, e4, y, rfl, hyb⟩ := z_get_ok hs.2.2.2.2.1 hb2
      have q1 : vx = .int x := Option.some.inj (e2.symm.trans e3)
      have q2 : vy = .int y := Option.some.inj (e1.symm.trans e4)
      subst q1; subst q2
      have hr := hs.2.2.2.2.2.2.2.1
      refine ⟨x, y, k2, rfl, rfl, z_sat_psh hs hk2 (z_vi ?_) ?_⟩
      · cases hc : z_noov (a.1 - b.2) (a.2 - b.1) with
        | false => exact z_sub_ok hxa hyb
        | true =>
          obtain ⟨n1, n2⟩ := z_noov_ok hc
          obtain ⟨a1, a2⟩ := hxa
          obtain ⟨b1, b2⟩ := hyb
          have ev : (x - y).toInt = x.toInt - y.toInt := by rw [Int32.toInt_sub]; exact z_bmod (by omega) (by omega)
          have l1 := z_lb1_ok hr e3 e4 (lo := a.1 - b.2) (by omega)
          have l2 := z_lb1_ok hr e4 e3 (lo := b.1 - a.2) (by omega)
          exact ⟨by rw [ev]; exact l1, by rw [ev]; show _ ≤ -(z_lb1 (z_R st) yy xx (b.1 - a.2)); omega⟩
      · cases hc : z_ile b.2 b.1 with
        | true =>
          have hy : y.toInt = b.1 := by have := z_ile_ok hc; have := hyb.1; have := hyb.2; omega
          exact z_shc_ok hs.1 e3 hxa (by rw [Int32.toInt_sub, hy]; rfl)
        | false => exact fun q hq => absurd hq List.not_mem_nil
    · cases h
  · cases h
theorem z_cat_ok {T : zTp} {H : Heap} {locs : List Loc} {env : List Value} {ls : Array Slot} {stk : List Value} {d : Nat} {v : Value} (h : (z_isi st d || z_isr st d) = true) (hs : z_sat OB D DA cl TY PHI sz raw pu T0 H0 env0 nL st T H locs env ls stk) (hv : env[d]? = some v) : v.category = 1 := by
  rw [Bool.or_eq_true] at h
  rcases h with h | h
  · obtain ⟨x, e1⟩ := z_isi_ok h hs
    rw [hv] at e1; cases e1; rfl
  · obtain ⟨x, e1⟩ := z_isr_ok h hs
    rw [hv] at e1; cases e1; rfl
theorem z_r_dup (hg : z_Good p l e R s m args below meth c Q OB D DA cl TY PHI sz raw pu T0 H0 env0 nL good) (hx : p.tables.exec = Jvm.exec) (hb : c.code = cc) (hd : decode cc pc = .ok (.dup, 1)) (h : z_dup st = some st') (k : good (pc + 1) st') : good pc st := by
  refine (hg _ _).mpr fun T H locs env ls stk hs => ?_
  unfold z_dup at h
  split at h
  · rename_i x S hS
    obtain ⟨h1, rfl⟩ := z_cond h
    obtain ⟨v, k2, rfl, e1, hk⟩ := z_stk_cons hS hs.2.2.2.1
    exact lv_dup hx hb hd (z_cat_ok h1 hs e1) ((hg _ _).mp k T H locs _ ls _ (z_sat_stS hs ⟨_, _, rfl, e1, _, _, rfl, e1, hk⟩))
  · cases h
theorem z_r_dupx1 (hg : z_Good p l e R s m args below meth c Q OB D DA cl TY PHI sz raw pu T0 H0 env0 nL good) (hx : p.tables.exec = Jvm.exec) (hb : c.code = cc) (hd : decode cc pc = .ok (.dup_x1, 1)) (h : z_dupx1 st = some st') (k : good (pc + 1) st') : good pc st := by
  refine (hg _ _).mpr fun T H locs env ls stk hs => ?_
  unfold z_dupx1 at h
  split at h
  · rename_i x y S hS
    obtain ⟨h1, rfl⟩ := z_cond h
    rw [Bool.and_eq_true] at h1
    obtain ⟨v, k2, rfl, e1, w, k3, rfl, e2, hk⟩ := z_stk_cons hS hs.2.2.2.1
    exact lv_dup_x1 hx hb hd (z_cat_ok h1.1 hs e1) (z_cat_ok h1.2 hs e2) ((hg _ _).mp k T H locs _ ls _ (z_sat_stS hs ⟨_, _, rfl, e1, _, _, rfl, e2, _, _, rfl, e1, hk⟩))
  · cases h
theorem z_r_dup2 (hg : z_Good p l e R s m args below meth c Q OB D DA cl TY PHI sz raw pu T0 H0 env0 nL good) (hx : p.tables.exec = Jvm.exec) (hb : c.code = cc) (hd : decode cc pc = .ok (.dup2, 1)) (h : z_dup2 st = some st') (k : good (pc + 1) st') : good pc st := by
  refine (hg _ _).mpr fun T H locs env ls stk hs => ?_
  unfold z_dup2 at h
  split at h
  · rename_i x y S hS
    obtain ⟨h1, rfl⟩ := z_cond h
    rw [Bool.and_eq_true] at h1
    obtain ⟨v, k2, rfl, e1, w, k3, rfl, e2, hk⟩ := z_stk_cons hS hs.2.2.2.1
    exact lv_dup2_11 hx hb hd (z_cat_ok h1.1 hs e1) (z_cat_ok h1.2 hs e2) ((hg _ _).mp k T H locs _ ls _ (z_sat_stS hs ⟨_, _, rfl, e1, _, _, rfl, e2, _, _, rfl, e1, _, _, rfl, e2, hk⟩))
  · cases h
theorem z_r_pop (hg : z_Good p l e R s m args below meth c Q OB D DA cl TY PHI sz raw pu T0 H0 env0 nL good) (hx : p.tables.exec = Jvm.exec) (hb : c.code = cc) (hd : decode cc pc = .ok (.pop, 1)) (h : z_pop st = some st') (k : good (pc + 1) st') : good pc st := by
  refine (hg _ _).mpr fun T H locs env ls stk hs => ?_
  unfold z_pop at h
  split at h
  · rename_i x S hS
    obtain ⟨h1, rfl⟩ := z_cond h
    obtain ⟨v, k2, rfl, e1, hk⟩ := z_stk_cons hS hs.2.2.2.1
    exact lv_pop hx hb hd (z_cat_ok h1 hs e1) ((hg _ _).mp k T H locs _ ls _ (z_sat_stS hs hk))
  · cases h
end ZPURE2
