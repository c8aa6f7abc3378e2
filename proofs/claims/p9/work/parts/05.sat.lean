/-! What an abstract state says; how it goes on. -/
def z_ph1 (PHI : List (List Nat)) (ph t : Nat) : Nat := match ph with
  | 0 => t
  | k + 1 => (PHI.getD k []).getD t t
/-- from 1000 on: one behind another -/
def z_phi (PHI : List (List Nat)) (ph t : Nat) : Nat := cond (Nat.blt ph 1000) (z_ph1 PHI ph t) (z_ph1 PHI (ph / 1000) (z_ph1 PHI (ph % 1000) t))
theorem z_phi_cmp {PHI : List (List Nat)} {p g t : Nat} (hp : Nat.blt p 1000 = true) (hg : Nat.blt g 1000 = true) (h0 : g ≠ 0) : z_phi PHI (g * 1000 + p) t = z_phi PHI g (z_phi PHI p t) := by
  have hp2 : p + 1 ≤ 1000 := Nat.le_of_ble_eq_true hp
  have e1 : (g * 1000 + p) / 1000 = g := by omega
  have e2 : (g * 1000 + p) % 1000 = p := by omega
  have e3 : Nat.blt (g * 1000 + p) 1000 = false := by
    cases h : Nat.blt (g * 1000 + p) 1000 with
    | false => rfl
    | true =>
      have : g * 1000 + p + 1 ≤ 1000 := Nat.le_of_ble_eq_true h
      omega
  unfold z_phi
  rw [e3, e1, e2, hp, hg]
  rfl
def z_ht (OB : Nat → Nat) (D : va_G) (DA : Nat → ClassId) (cl : List vw_C) (TY : List zTy) (T : zTp) (H : Heap) : Prop := (∀ a t, T a = some t → ∃ ty, TY[t]? = some ty ∧ z_cell OB D DA cl T H a ty) ∧ z_J D DA TY T H
/-- final fields of typed objects are as they were -/
def z_fin (D : va_G) (cl : List vw_C) (TY : List zTy) (T0 : zTp) (H0 : Heap) (T : zTp) (H : Heap) : Prop := ∀ a t ci fl, T0 a = some t → TY[t]? = some (.inl (ci, fl)) → ∃ t' fl', T a = some t' ∧ TY[t']? = some (.inl (ci, fl')) ∧ ∀ r k w, cl[ci]? = some r → k < r.2.2 → (r.2.1 k).2.2.2 = true → z_sl H0 a (D.2 ci k) w → z_sl H a (D.2 ci k) w
theorem z_fin_rf {D : va_G} {cl : List vw_C} {TY : List zTy} {T : zTp} {H : Heap} : z_fin D cl TY T H T H := fun _ t _ fl h1 h2 => ⟨t, fl, h1, h2, fun _ _ _ _ _ _ h => h⟩
theorem z_fin_tr {D : va_G} {cl : List vw_C} {TY : List zTy} {T0 T1 T2 : zTp} {H0 H1 H2 : Heap} (h : z_fin D cl TY T0 H0 T1 H1) (h2 : z_fin D cl TY T1 H1 T2 H2) : z_fin D cl TY T0 H0 T2 H2 := fun a t ci fl e1 e2 => by
  obtain ⟨t1, fl1, g1, g2, g3⟩ := h a t ci fl e1 e2
  obtain ⟨t2, fl2, k1, k2, k3⟩ := h2 a t1 ci fl1 g1 g2
  exact ⟨t2, fl2, k1, k2, fun r k w x1 x2 x3 x4 => k3 r k w x1 x2 x3 (g3 r k w x1 x2 x3 x4)⟩
def z_mem (OB : Nat → Nat) (D : va_G) (DA : Nat → ClassId) (cl : List vw_C) (TY : List zTy) (PHI : List (List Nat)) (sz : Nat) (raw : Option Nat) (pu : Bool) (T0 : zTp) (H0 : Heap) (T : zTp) (H : Heap) (locs : List Loc) (ph : Nat) : Prop :=
  z_ht OB D DA cl TY T H ∧ ((∀ a t, T a = some t → sz ≤ a) ∧ (pu = true → H = H0 ∧ T = T0) ∧ z_fin D cl TY T0 H0 T H) ∧ (∀ a t, T0 a = some t → T a = some (z_phi PHI ph t)) ∧ (∀ q, q < H0.size → T0 q = none → raw ≠ some q → T q = none ∧ H[q]? = H0[q]?) ∧ va_S (fun q => sz ≤ q) H0 H locs
def z_sat (OB : Nat → Nat) (D : va_G) (DA : Nat → ClassId) (cl : List vw_C) (TY : List zTy) (PHI : List (List Nat)) (sz : Nat) (raw : Option Nat) (pu : Bool) (T0 : zTp) (H0 : Heap) (env0 : List Value) (nL : Nat) (st : zS) (T : zTp) (H : Heap) (locs : List Loc) (env : List Value) (ls : Array Slot) (stk : List Value) : Prop :=
  env.length = z_n st ∧ (∃ w, env = env0 ++ w) ∧ z_ls nL ls env (z_L st) ∧ z_stk env (z_S st) stk ∧ z_fv OB T env (z_V st) ∧ z_ff D cl H env (z_F st) ∧ z_fe H env (z_E st) ∧ z_fr env (z_R st) ∧ z_fx D cl T sz H0.size raw H env (z_X st) ∧ z_mem OB D DA cl TY PHI sz raw pu T0 H0 T H locs (z_ph st)
/-- a value comes on the stack, with what is known of it -/
def z_psh (st : zS) (S : List Nat) (c : zV) (rs : List (Nat × Nat × Int)) : zS := (z_L st, z_n st :: S, z_n st + 1, (z_n st, c) :: z_V st, z_F st, z_E st, rs ++ z_R st, z_X st, z_C st, z_ph st)
/-- another stack -/
def z_stS (st : zS) (S : List Nat) : zS := (z_L st, S, z_n st, z_V st, z_F st, z_E st, z_R st, z_X st, z_C st, z_ph st)
section ZSAT
variable {OB : Nat → Nat} {D : va_G} {DA : Nat → ClassId} {cl : List vw_C} {TY : List zTy} {PHI : List (List Nat)} {sz : Nat} {raw : Option Nat} {pu : Bool} {T0 : zTp} {H0 : Heap} {env0 : List Value} {nL : Nat} {st : zS} {T : zTp} {H : Heap} {locs : List Loc} {env : List Value} {ls : Array Slot} {stk : List Value}
theorem z_sat_psh (h : z_sat OB D DA cl TY PHI sz raw pu T0 H0 env0 nL st T H locs env ls stk) {S : List Nat} {k : List Value} (hS : z_stk env S k) {c : zV} {v : Value} (hv : z_v OB T c v) {rs : List (Nat × Nat × Int)} (hr : z_fr (env ++ [v]) rs) :
    z_sat OB D DA cl TY PHI sz raw pu T0 H0 env0 nL (z_psh st S c rs) T H locs (env ++ [v]) ls (v :: k) := by
  obtain ⟨h1, ⟨w, h2⟩, h3, h4, h5, h6, h7, h8, h9, h10⟩ := h
  have hn : (env ++ [v])[z_n st]? = some v := by rw [← h1]; simp
  refine ⟨?_, ⟨w ++ [v], ?_⟩, z_ls_app h3, ⟨v, k, rfl, hn, z_stk_app hS⟩, ?_, z_ff_app h6, z_fe_app h7, ?_, z_fx_app h9, h10⟩
  · show (env ++ [v]).length = z_n st + 1
    rw [List.length_append, h1]; rfl
  · rw [h2, List.append_assoc]
  · intro q hq
    rcases List.mem_cons.mp hq with rfl | hq
    · exact ⟨v, hn, hv⟩
    · exact z_fv_app h5 q hq
  · intro q hq
    rcases List.mem_append.mp hq with hq | hq
    · exact hr q hq
    · exact z_fr_app h8 q hq
theorem z_sat_stS (h : z_sat OB D DA cl TY PHI sz raw pu T0 H0 env0 nL st T H locs env ls stk) {S : List Nat} {k : List Value} (hS : z_stk env S k) :
    z_sat OB D DA cl TY PHI sz raw pu T0 H0 env0 nL (z_stS st S) T H locs env ls k := by
  obtain ⟨h1, h2, h3, h4, h5⟩ := h
  exact ⟨h1, h2, h3, hS, h5⟩
/-- more is known of values -/
def z_mor (st : zS) (S : List Nat) (vs : List (Nat × zV)) (rs : List (Nat × Nat × Int)) : zS := (z_L st, S, z_n st, vs ++ z_V st, z_F st, z_E st, rs ++ z_R st, z_X st, z_C st, z_ph st)
theorem z_sat_mor (h : z_sat OB D DA cl TY PHI sz raw pu T0 H0 env0 nL st T H locs env ls stk) {S : List Nat} {k : List Value} (hS : z_stk env S k) {vs : List (Nat × zV)} (hv : z_fv OB T env vs) {rs : List (Nat × Nat × Int)} (hr : z_fr env rs) :
    z_sat OB D DA cl TY PHI sz raw pu T0 H0 env0 nL (z_mor st S vs rs) T H locs env ls k := by
  obtain ⟨h1, h2, h3, h4, h5, h6, h7, h8, h9, h10⟩ := h
  refine ⟨h1, h2, h3, hS, fun q hq => ?_, h6, h7, fun q hq => ?_, h9, h10⟩
  · rcases List.mem_append.mp hq with hq | hq
    · exact hv q hq
    · exact h5 q hq
  · rcases List.mem_append.mp hq with hq | hq
    · exact hr q hq
    · exact h8 q hq
/-- a local is set -/
def z_stL (st : zS) (S : List Nat) (i d : Nat) : zS := ((i, d) :: (z_L st).filter (fun q => !(Nat.beq q.1 i)), S, z_n st, z_V st, z_F st, z_E st, z_R st, z_X st, z_C st, z_ph st)
theorem z_ls_set {L : List (Nat × Nat)} {i d : Nat} {v : Value} {lv : List (Nat × Value)} (hc : ∀ q ∈ lv, q.2.category = 1) (h3 : ∀ q ∈ L, ∃ v, env[q.2]? = some v ∧ (q.1, v) ∈ lv) (hd : env[d]? = some v) (hv : v.category = 1) {ls' : Array Slot} (hl : lv_has ls' nL ((i, v) :: lv.filter (fun q => !(q.1 == i) && !(q.1 + 1 == i && q.2.category == 2)))) :
    z_ls nL ls' env ((i, d) :: L.filter (fun q => !(Nat.beq q.1 i))) := by
  refine ⟨_, hl, fun q hq => ?_, fun q hq => ?_⟩
  · rcases List.mem_cons.mp hq with rfl | hq
    · exact hv
    · exact hc q (List.mem_filter.mp hq).1
  · rcases List.mem_cons.mp hq with rfl | hq
    · exact ⟨v, hd, List.mem_cons_self⟩
    · obtain ⟨hq1, hq2⟩ := List.mem_filter.mp hq
      obtain ⟨w, e, m⟩ := h3 q hq1
      refine ⟨w, e, List.mem_cons_of_mem _ (List.mem_filter.mpr ⟨m, ?_⟩)⟩
      have hne : ¬ q.1 = i := by
        intro hh
        rw [hh] at hq2
        simp at hq2
      have hcat := hc _ m
      simp [hne, hcat]
theorem z_sat_stL (h : z_sat OB D DA cl TY PHI sz raw pu T0 H0 env0 nL st T H locs env ls stk) {S : List Nat} {k : List Value} (hS : z_stk env S k) {i d : Nat} {ls' : Array Slot} (hl : z_ls nL ls' env ((i, d) :: (z_L st).filter (fun q => !(Nat.beq q.1 i)))) :
    z_sat OB D DA cl TY PHI sz raw pu T0 H0 env0 nL (z_stL st S i d) T H locs env ls' k := by
  obtain ⟨h1, h2, h3, h4, h5⟩ := h
  exact ⟨h1, h2, hl, hS, h5⟩
end ZSAT
