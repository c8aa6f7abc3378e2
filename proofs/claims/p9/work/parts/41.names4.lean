/-! Rules over named cells: arrays, calls, a method's contract. -/
section ZVARR
variable {cl : List vw_C} {FT : Nat → Nat → FieldType} {KXf : (Nat → Nat) → Nat → State → Heap → Prop} {TBL : List Cond} {MT : List zM} {y : zNL} {mm : zM} {K : zK} {rm : Nat × Nat} {good : Nat → List zNV → List zNV → List zNV → List (Int → Int) → Prop}
variable {pc : Nat} {L S : List zNV} {F : List zNV} {G : List (Int → Int)}
theorem zv_ix {x : Int32} {n : Nat} (h1 : 0 ≤ x.toInt) (h2 : x.toInt < n) : ¬ (x < 0 ∨ n ≤ x.toNatClampNeg) ∧ x.toInt.toNat < n := by
  refine ⟨fun h => ?_, by omega⟩
  rcases h with h | h
  · have := Int32.lt_iff_toInt_lt.mp h
    have z0 : (0 : Int32).toInt = 0 := rfl
    omega
  · rw [z_clamp] at h; omega
theorem zv_iald (hB : zv_B cl FT KXf TBL MT y mm K rm good) {c n j : Nat} {a : Int} {g : Int → Int} (hd : decode mm.2.1 pc = .ok (.iaload, 1)) (ha : zv_ar y c = some (0, n, j)) (hl : zv_l G j = some g) (ha1 : 0 ≤ a) (ha2 : a < n) (k : -2147483648 ≤ g a → g a ≤ 2147483647 → good (pc + 1) L (.inl (g a) :: S) F G) : good pc L (.inl a :: .inr c :: S) F G := by
  obtain ⟨p, l, e, R, s, m, args, below, meth, cc, Q, OB, D, DA, sz, A, H0, Ts, cells, slots, ⟨hx, hb, hml, hD, hKS⟩, ⟨hsz, hXp, hX, -⟩, ⟨hwf, hinj, hge, hOB⟩, hg⟩ := hB
  refine (hg _ _ _ _ _).mpr fun H locs ls stk h1 h2 h3 h4 h5 => ?_
  obtain ⟨w, st, rfl, ⟨x, rfl, rfl⟩, w2, st2, rfl, hw, h6⟩ := h5
  have hw : w2 = .ref (A _) := zv_w_r hw (zv_ar_lt hwf ha)
  subst hw
  obtain ⟨f, g2, x1, x2, x3⟩ := h1.2.2.2 _ (zv_ar_ok ha)
  rw [hl] at x2
  cases x2
  obtain ⟨b1, b2⟩ := zv_ix ha1 ha2
  obtain ⟨v, v1, v2⟩ := x3 x.toInt.toNat b2
  have ev : ((x.toInt.toNat : Nat) : Int) = x.toInt := Int.toNat_of_nonneg ha1
  rw [ev] at v2
  refine W.iald hx hb x1 (z_isarr hD (k := 0) (by omega) n f) (fun q => by cases q) (by rw [arrV_size]; exact b1) (v := .int v) (by rw [z_clamp, arrV_read _ _ b2, v1]) rfl rfl hd ?_
  rw [← v2] at k
  exact (hg _ _ _ _ _).mp (k (z_lo v) (z_hi v)) H locs ls _ h1 h2 h3 h4 ⟨_, _, rfl, ⟨v, rfl, rfl⟩, h6⟩
theorem zv_bald (hB : zv_B cl FT KXf TBL MT y mm K rm good) {c n j : Nat} {a : Int} {g : Int → Int} (hd : decode mm.2.1 pc = .ok (.baload, 1)) (ha : zv_ar y c = some (1, n, j)) (hl : zv_l G j = some g) (ha1 : 0 ≤ a) (ha2 : a < n) (k : -2147483648 ≤ g a → g a ≤ 2147483647 → good (pc + 1) L (.inl (g a) :: S) F G) : good pc L (.inl a :: .inr c :: S) F G := by
  obtain ⟨p, l, e, R, s, m, args, below, meth, cc, Q, OB, D, DA, sz, A, H0, Ts, cells, slots, ⟨hx, hb, hml, hD, hKS⟩, ⟨hsz, hXp, hX, -⟩, ⟨hwf, hinj, hge, hOB⟩, hg⟩ := hB
  refine (hg _ _ _ _ _).mpr fun H locs ls stk h1 h2 h3 h4 h5 => ?_
  obtain ⟨w, st, rfl, ⟨x, rfl, rfl⟩, w2, st2, rfl, hw, h6⟩ := h5
  have hw : w2 = .ref (A _) := zv_w_r hw (zv_ar_lt hwf ha)
  subst hw
  obtain ⟨f, g2, x1, x2, x3⟩ := h1.2.2.2 _ (zv_ar_ok ha)
  rw [hl] at x2
  cases x2
  obtain ⟨b1, b2⟩ := zv_ix ha1 ha2
  obtain ⟨v, v1, v2⟩ := x3 x.toInt.toNat b2
  have ev : ((x.toInt.toNat : Nat) : Int) = x.toInt := Int.toNat_of_nonneg ha1
  rw [ev] at v2
  refine W.bald hx hb x1 (z_isarr hD (k := 1) (by omega) n f) (fun q => by cases q) (by rw [arrV_size]; exact b1) (v := .int v) (by rw [z_clamp, arrV_read _ _ b2, v1]) rfl rfl hd ?_
  rw [← v2] at k
  exact (hg _ _ _ _ _).mp (k (z_lo v) (z_hi v)) H locs ls _ h1 h2 h3 h4 ⟨_, _, rfl, ⟨v, rfl, rfl⟩, h6⟩
theorem zv_iast (hB : zv_B cl FT KXf TBL MT y mm K rm good) {c n j : Nat} {a v : Int} {g : Int → Int} (hd : decode mm.2.1 pc = .ok (.iastore, 1)) (ha : zv_ar y c = some (0, n, j)) (hl : zv_l G j = some g) (ha1 : 0 ≤ a) (ha2 : a < n) (k : good (pc + 1) L S F (zv_s G j (zv_up g a v))) : good pc L (.inl v :: .inl a :: .inr c :: S) F G := by
  obtain ⟨p, l, e, R, s, m, args, below, meth, cc, Q, OB, D, DA, sz, A, H0, Ts, cells, slots, ⟨hx, hb, hml, hD, hKS⟩, ⟨hsz, hXp, hX, -⟩, ⟨hwf, hinj, hge, hOB⟩, hg⟩ := hB
  refine (hg _ _ _ _ _).mpr fun H locs ls stk h1 h2 h3 h4 h5 => ?_
  obtain ⟨w0, st0, rfl, ⟨u, rfl, rfl⟩, w, st, rfl, ⟨x, rfl, rfl⟩, w2, st2, rfl, hw, h6⟩ := h5
  have hw : w2 = .ref (A _) := zv_w_r hw (zv_ar_lt hwf ha)
  subst hw
  have hm := zv_ar_ok ha
  obtain ⟨f, g2, x1, x2, x3⟩ := h1.2.2.2 _ hm
  rw [hl] at x2
  cases x2
  obtain ⟨b1, b2⟩ := zv_ix ha1 ha2
  obtain ⟨a1, a2, a3, a4⟩ := zv_wfA hwf hm
  have a1 : c < n_N y := a1
  refine W.iast hx hb x1 (z_isarr hD (k := 0) (by omega) n f) (fun q => by cases q) (by rw [arrV_size]; exact b1) rfl rfl hd fun H1 e1 e2 e3 => ?_
  have e1' : H1[A c]? = some (arrV (DA 0) n (updV f x.toNatClampNeg (.int u))) := by rw [e1, arrV_store]
  have hne : ∀ b, b < n_N y → b ≠ c → A b ≠ A c := fun b hb1 hb2 hb3 => hb2 (hinj _ _ hb1 a1 hb3)
  refine (hg _ _ _ _ _).mp k H1 _ ls st2 ⟨fun q hq => ?_, fun q hq => ?_, fun q hq => ?_, fun q hq => ?_⟩ (zv_frm_tr h2 ⟨e2, fun b hb1 => e3 b (fun e => hb1 c a1 e.symm), fun q hq r' k2 w hr hk2 hk3 hk4 => ?_⟩) (zv_S_set (A := A) h3 (hge _ a1) e2 e3) h4 h6
  · obtain ⟨w1, w2, w3⟩ := zv_wfO hwf hq
    obtain ⟨r', V', y1, y2⟩ := h1.1 q hq
    exact ⟨r', V', y1, y2.kept (e3 _ (hne _ w1 (w2 _ hm)))⟩
  · obtain ⟨r', x', f', y1, y2, y3, y4⟩ := h1.2.1 q hq
    exact ⟨r', x', f', y1, y2, z_sl_kept y3 (e3 _ (hne _ (zv_wfIn hwf hq).1 (fun e => a3 _ hq e.symm))), y4⟩
  · obtain ⟨r', y1, y2, y3⟩ := h1.2.2.1 q hq
    exact ⟨r', y1, y2, z_sl_kept y3 (e3 _ (hne _ (zv_wfR hwf hq).1 (fun e => a4 _ hq e.symm)))⟩
  · obtain ⟨f2, g2, y1, y2, y3⟩ := h1.2.2.2 q hq
    obtain ⟨w1, w2, w3, w4⟩ := zv_wfA hwf hq
    by_cases e : q.1 = c
    · obtain ⟨v1, v2⟩ := a2 q hq
      obtain ⟨v3, v4⟩ := v2 e.symm
      have v5 : j = q.2.2.2 := v1.mpr e.symm
      have v3 : 0 = q.2.1 := v3
      have v4 : n = q.2.2.1 := v4
      refine ⟨_, _, by rw [e, ← v3, ← v4]; exact e1', by rw [← v5]; exact zv_ls_eq hl, fun i hi => ?_⟩
      rw [← v4] at hi
      rw [← v3]
      obtain ⟨z, z1, z2⟩ := x3 i hi
      by_cases ei : i = x.toInt.toNat
      · refine ⟨u, ?_, ?_⟩
        · rw [z_clamp, ei]; simp [updV]
        · rw [ei, Int.toNat_of_nonneg ha1, zv_up_s]
      · refine ⟨z, ?_, ?_⟩
        · have hne2 : ¬ i = x.toNatClampNeg := ei
          simp [updV, hne2, z1]
        · rw [zv_up_n (by omega)]; exact z2
    · refine ⟨f2, g2, by rw [e3 _ (hne _ w1 e)]; exact y1, ?_, y3⟩
      rw [zv_ls_ne (fun h7 => e ((w2 _ hm).1.mp h7.symm))]
      exact y2
  · exact z_sl_kept hk4 (e3 _ (hne _ (zv_wfO hwf hq).1 ((zv_wfO hwf hq).2.1 _ hm)))
end ZVARR
/-! Contracts over named cells. -/
def zv_rv (r : Option Int) (v : Option Value) : Prop := match r, v with
  | none, none => True
  | some x, some w => ∃ z : Int32, w = .int z ∧ z.toInt = x
  | _, _ => False
def zv_ro (r : Option Int) (S : List zNV) : List zNV := match r with
  | none => S
  | some x => .inl x :: S
abbrev zNP : Type := List zNV → List zNV → List (Int → Int) → Prop
abbrev zNQ : Type := List zNV → List zNV → List (Int → Int) → Option Int → List zNV → List (Int → Int) → Prop
def zv_Pre (D : va_G) (DA : Nat → ClassId) (cl : List vw_C) (y : zNL) (sz : Nat) (KX : State → Heap → Prop) (A : Nat → Nat) (va : List zNV) (F : List zNV) (G : List (Int → Int)) (args : Array Value) (U : State) : Prop :=
  ∃ vals : List Value, args = vals.toArray ∧ zv_st A va vals ∧ zv_rep D DA cl y A F G U.heap ∧ sz ≤ U.heap.size ∧ va_K D cl (z_tys DA) U ∧ KX U U.heap
def zv_Post (D : va_G) (DA : Nat → ClassId) (cl : List vw_C) (y : zNL) (A : Nat → Nat) (va : List zNV) (F : List zNV) (G : List (Int → Int)) (Qs : zNQ) (_args : Array Value) (st : State) (o : Outcome) (t : State) : Prop :=
  ∃ r v F' G', o = .returned v ∧ zv_rv r v ∧ zv_rep D DA cl y A F' G' t.heap ∧ zv_frm D cl y A st.heap t.heap ∧ Qs va F G r F' G'
def zv_OK (TBL : List Cond) (cl : List vw_C) (KXf : (Nat → Nat) → Nat → State → Heap → Prop) (y : zNL) (mm : zM) (rm : Nat × Nat) (P : zNP) (Qs : zNQ) : Prop :=
  ∀ (l : Launch) (OB : Nat → Nat) (D : va_G) (DA : Nat → ClassId) (sz : Nat) (A : Nat → Nat) (va : List zNV) (F : List zNV) (G : List (Int → Int)), P va F G → (∀ a b, a < n_N y → b < n_N y → A a = A b → a = b) → (∀ a, a < n_N y → sz ≤ A a) → (∀ k, A (900 + k) = OB k) →
    Met l mm.1 (Cond.code mm.1 mm.2.1 mm.2.2.1 mm.2.2.2.1 :: TBL) { frames := rm.1, cells := 0, slots := 0, locals := rm.2 } (zv_Pre D DA cl y sz (KXf OB sz) A va F G) (zv_Post D DA cl y A va F G Qs) 0 0 (fun q => sz ≤ q)
theorem zv_l_get {α : Type} : ∀ {L : List α} {i : Nat}, zv_l L i = L[i]?
  | [], _ => rfl
  | _ :: _, 0 => rfl
  | _ :: L, i + 1 => by
    show zv_l L i = _
    rw [zv_l_get]; rfl
theorem zv_st_len {A : Nat → Nat} : ∀ {va : List zNV} {vals : List Value}, zv_st A va vals → vals.length = va.length
  | [], k, h => by
    have h : k = [] := h
    rw [h]; rfl
  | v :: S, k, ⟨w, k', e, _, h⟩ => by rw [e]; simp [zv_st_len h]
theorem zv_st_get {A : Nat → Nat} : ∀ {va : List zNV} {vals : List Value}, zv_st A va vals → ∀ {i : Nat} {v : zNV}, va[i]? = some v → ∃ w, vals[i]? = some w ∧ zv_v A v w
  | [], _, _, _, _, h2 => by simp at h2
  | v :: S, k, ⟨w, k', e, hv, h⟩, 0, u, h2 => by
    have : v = u := by simpa using h2
    subst this; subst e
    exact ⟨w, rfl, hv⟩
  | v :: S, k, ⟨w, k', e, hv, h⟩, i + 1, u, h2 => by
    subst e
    obtain ⟨x, x1, x2⟩ := zv_st_get h (i := i) (by simpa using h2)
    exact ⟨x, by simpa using x1, x2⟩
theorem zv_st_cat {A : Nat → Nat} : ∀ {va : List zNV} {vals : List Value}, va.all zv_n1 = true → zv_st A va vals → ∀ v ∈ vals, v.category = 1
  | [], k, _, h, v, hv => by
    have h : k = [] := h
    rw [h] at hv; exact absurd hv List.not_mem_nil
  | x :: S, k, hn, ⟨w, k', e, hx, h⟩, v, hv => by
    subst e
    rw [List.all_cons, Bool.and_eq_true] at hn
    rcases List.mem_cons.mp hv with rfl | hv
    · exact zv_v1 hn.1 hx
    · exact zv_st_cat hn.2 h v hv
theorem zv_st_app {A : Nat → Nat} : ∀ {va vb : List zNV} {k : List Value}, zv_st A (va ++ vb) k → ∃ x z, k = x ++ z ∧ zv_st A va x ∧ zv_st A vb z
  | [], vb, k, h => ⟨[], k, rfl, rfl, h⟩
  | v :: va, vb, k, ⟨w, k', e, hv, h⟩ => by
    obtain ⟨x, z, e2, h1, h2⟩ := zv_st_app (va := va) (vb := vb) h
    exact ⟨w :: x, z, by rw [e, e2]; rfl, ⟨w, x, rfl, hv, h1⟩, h2⟩
theorem zv_st_mk {A : Nat → Nat} : ∀ {va vb : List zNV} {x z : List Value}, zv_st A va x → zv_st A vb z → zv_st A (va ++ vb) (x ++ z)
  | [], vb, x, z, h, h2 => by
    have h : x = [] := h
    rw [h]; exact h2
  | v :: va, vb, x, z, ⟨w, k', e, hv, h⟩, h2 => by
    subst e
    exact ⟨w, k' ++ z, rfl, hv, zv_st_mk h h2⟩
theorem zv_st_rev {A : Nat → Nat} : ∀ {va : List zNV} {x : List Value}, zv_st A va x → zv_st A va.reverse x.reverse
  | [], x, h => by
    have h : x = [] := h
    rw [h]; rfl
  | v :: va, x, ⟨w, k', e, hv, h⟩ => by
    subst e
    rw [List.reverse_cons, List.reverse_cons]
    exact zv_st_mk (zv_st_rev h) ⟨w, [], rfl, hv, rfl⟩
theorem zv_sum1 : ∀ {k : List Value}, (∀ v ∈ k, v.category = 1) → (k.map fun v => v.category).sum = k.length
  | [], _ => rfl
  | v :: k, h => by
    rw [List.map_cons, List.sum_cons, h v List.mem_cons_self, zv_sum1 (fun x hx => h x (List.mem_cons_of_mem _ hx))]
    simp [Nat.add_comm]
theorem zv_blind {D : va_G} {DA : Nat → ClassId} {cl : List vw_C} {y : zNL} {sz : Nat} {A : Nat → Nat} {va : List zNV} {F : List zNV} {G : List (Int → Int)} {KX : State → Heap → Prop} (hXp : z_KXp sz KX) : FrameBlind (zv_Pre D DA cl y sz KX A va F G) := by
  intro a U gf mk h
  obtain ⟨vals, h1, h2, h3, h4, h5, h6⟩ := h
  exact ⟨vals, h1, h2, h3, h4, va_K.moved (u := U) (U := U.calling gf mk a) (Vm.Alike.refl U.vm) h5, hXp.2.2 U (U.calling gf mk a) _ rfl h6⟩
