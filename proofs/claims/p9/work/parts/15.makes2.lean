/-! New objects; types given and made wider; longs. -/
def z_mp (PHI : List (List Nat)) (ph : Nat) (c : zV) : zV := match c with
  | .inr (.inl t) => .inr (.inl (z_phi PHI ph t))
  | c => c
/-- a type is within another one, once its references are taken on -/
def z_tle (PHI : List (List Nat)) (ph : Nat) (a b : zTy) : Bool := match a, b with
  | .inl o, .inl q => Nat.beq o.1 q.1 && Nat.beq o.2.length q.2.length && (List.range q.2.length).all (fun k => match o.2[k]?, q.2[k]? with
    | some x, some y => z_le (z_mp PHI ph x) y
    | _, _ => false)
  | .inr o, .inr q => Nat.beq o.1 q.1 && Nat.ble q.2.1.1 o.2.1.1 && Nat.ble o.2.1.2 q.2.1.2 && q.2.2.all (fun g => o.2.2.any (fun f => Nat.ble f.1.1 g.1.1 && Nat.ble g.1.2 f.1.2 && z_le (z_mp PHI ph f.2) g.2))
  | _, _ => false
def z_phok (TY : List zTy) (PHI : List (List Nat)) (ph : Nat) : Bool := (List.range TY.length).all (fun t => match TY[t]?, TY[z_phi PHI ph t]? with
  | some a, some b => z_tle PHI ph a b
  | _, _ => false)
def z_rty (PHI : List (List Nat)) (st : zS) (ph : Nat) : Option zS := cond (Nat.beq (z_ph st) 0) (some (z_L st, z_S st, z_n st, (z_V st).map (fun q => (q.1, z_mp PHI ph q.2)), z_F st, z_E st, z_R st, z_X st, z_C st, ph)) none
def z_lc0 (st : zS) : Option zS := some (z_psh st (z_S st) (.inr (.inr 0)) [])
def z_lsh (st : zS) : Option zS := match z_S st with
  | y :: x :: S => (match z_get (z_V st) x, z_get (z_V st) y with
    | some (.inr (.inr 0)), some (.inl _) => some (z_psh st S (.inr (.inr 0)) [])
    | _, _ => none)
  | _ => none
def z_l2 (c : zV) (st : zS) : Option zS := match z_S st with
  | y :: x :: S => (match z_get (z_V st) x, z_get (z_V st) y with
    | some (.inr (.inr 0)), some (.inr (.inr 0)) => some (z_psh st S c [])
    | _, _ => none)
  | _ => none
section ZMAKES2
variable {p : Program} {l : Launch} {e : Env} {R : Room} {s : State} {m : MethodId} {args : Array Value} {below : List Frame} {meth : Method} {c : Code} {Q : State → Prop} {cc : ByteArray} {pc : Nat}
variable {OB : Nat → Nat} {D : va_G} {DA : Nat → ClassId} {cl : List vw_C} {TY : List zTy} {PHI : List (List Nat)} {sz : Nat} {raw : Option Nat} {pu : Bool} {T0 : zTp} {H0 : Heap} {env0 : List Value} {nL : Nat} {st st' : zS} {good : Nat → zS → Prop}
variable {Ts : List Cond} {own : String} {FT : Nat → Nat → FieldType} {FL : List (Nat × Nat × Nat)} {CL : List (Nat × Nat)} {tys : List (ClassId × FieldType)}
variable {T : zTp} {H : Heap} {locs : List Loc} {env : List Value} {ls : Array Slot} {stk : List Value} {cells slots : Nat} {rest : List Value}
theorem z_r_new (hpu : pu = false) (hg : z_Good p l e R s m args below meth c Q OB D DA cl TY PHI sz raw pu T0 H0 env0 nL good) (hx : p.tables.exec = Jvm.exec) (hb : c.code = cc) (hSt : z_St Ts cl FT own FL) (hD : z_Dy s m args Ts own D cl DA tys) (hCL : ∀ q ∈ CL, ∃ r, cl[q.2]? = some r ∧ Cond.classLink own q.1 r.1 ∈ Ts ∧ Cond.instantiable r.1 r.2.2 ∈ Ts ∧ Cond.initialized r.1 ∈ Ts) (hsz : sz ≤ H0.size) {i : Nat} (hd : decode cc pc = .ok (.new i, 3)) (h : z_new CL cl FT R.cells R.slots st i = some st') (k : good (pc + 3) st') : good pc st := by
  refine (hg _ _).mpr fun T H locs env ls stk hs => ?_
  unfold z_new at h
  split at h
  · rename_i q hq
    have hm := List.mem_of_find?_eq_some hq
    have hi0 := List.find?_some hq
    have hi : q.1 = i := z_beq hi0
    split at h
    · rename_i r hr
      obtain ⟨hc, rfl⟩ := z_cond h
      rw [Bool.and_eq_true] at hc
      obtain ⟨r2, w1, w2, w3, w4⟩ := hCL q hm
      rw [hr] at w1
      cases w1
      obtain ⟨hts, hown, hK, -⟩ := id hD
      have hKn := hK.1 _ _ hr
      have hmem := hs.2.2.2.2.2.2.2.2.2
      have hTn : T H.size = none := by
        cases hT : T H.size with
        | none => rfl
        | some t => exact absurd (z_mem_lt hmem hT) (Nat.lt_irrefl _)
      have hsz1 : H0.size ≤ H.size := hmem.2.2.2.2.1
      refine W.newcK hx hb hown (hts _ w2) (hts _ w3) (hts _ w4) rfl (by rw [← hi] at hd; exact hd) (Nat.le_of_ble_eq_true hc.1) (Nat.le_of_ble_eq_true hc.2) hKn.2.1 rfl fun H1 kC y1 y2 y3 y4 => ?_
      have hob : t_OB H.size (D.1 q.2) r.2.2 (D.2 q.2) H1 (fun k => defaultValue (FT q.2 k)) := u_born (FT q.2) hts (hSt.1 _ _ hr).1 hKn y1 y2 (hSt.1 _ _ hr).2.1
      have n0 : (env ++ [Value.ref H.size, Value.int 0])[z_n st]? = some (.ref H.size) := by rw [← hs.1]; simp
      have n1 : (env ++ [Value.ref H.size, Value.int 0])[z_n st + 1]? = some (.int 0) := by rw [← hs.1]; simp
      refine (hg _ _).mp k T H1 locs (env ++ [.ref H.size, .int 0]) ls _ ⟨by show (env ++ [Value.ref H.size, Value.int 0]).length = z_n st + 2; rw [List.length_append, hs.1]; rfl, ?_, z_ls_app hs.2.2.1, ⟨_, _, rfl, n0, z_stk_app hs.2.2.2.1⟩, fun f hf => ?_, fun f hf => ?_, z_fe_push y4 (z_fe_app hs.2.2.2.2.2.2.1), z_fr_app hs.2.2.2.2.2.2.2.1, ⟨⟨H.size, n0, hTn, ⟨by omega, Or.inl hsz1⟩, ⟨r, _, hr, hob⟩, fun p hp hpe => ?_⟩, z_fx_push y4 (z_fx_app hs.2.2.2.2.2.2.2.2.1)⟩, ?_⟩
      · obtain ⟨w, hw⟩ := hs.2.1
        exact ⟨w ++ [.ref H.size, .int 0], by rw [hw, List.append_assoc]⟩
      · rcases List.mem_cons.mp hf with rfl | hf
        · exact ⟨_, n1, 0, rfl, Int.le_refl _, Int.le_refl _⟩
        · exact z_fv_app hs.2.2.2.2.1 f hf
      · rcases List.mem_append.mp hf with hf | hf
        · obtain ⟨k1, hk1, rfl⟩ := List.mem_map.mp hf
          obtain ⟨hk2, hk3⟩ := List.mem_filter.mp hk1
          have hlt := List.mem_range.mp hk2
          refine ⟨H.size, .int 0, r, n0, n1, hr, hlt, ?_⟩
          obtain ⟨cell, x1, x2, x3, x4⟩ := hob
          refine ⟨cell, x1, x3, ?_⟩
          show cell.slots[D.2 q.2 k1]? = some (.int 0)
          rw [x4 _ hlt]
          show some (defaultValue (FT q.2 k1)) = some (.int 0)
          cases hft : FT q.2 k1 <;> rw [hft] at hk3 <;> simp only [z_zf, Bool.false_eq_true] at hk3 <;> rfl
        · exact z_ff_push y4 (z_ff_app hs.2.2.2.2.2.1) f hf
      · obtain ⟨b, b1, b2, b3, r2, V, b4, ⟨cell, b5, -⟩⟩ := z_fx_in (z_fx_app (w := [Value.ref H.size, Value.int 0]) hs.2.2.2.2.2.2.2.2.1) p hp
        rw [b1] at hpe
        cases hpe
        exact absurd (Array.getElem?_eq_some_iff.mp b5).1 (Nat.lt_irrefl _)
      · obtain ⟨h1, h2, h3, h4, h5⟩ := hmem
        refine ⟨⟨fun b u hb => ?_, zJ_ext h1.2 (fun b u hb => by obtain ⟨ty2, u1, u2⟩ := h1.1 b u hb; exact z_cell_lt u2) (fun b hb => y4 b hb)⟩, ⟨h2.1, (fun h => by rw [hpu] at h; cases h), z_fin_tr h2.2.2 fun b u ci fl hb hty2 => ⟨u, fl, hb, hty2, fun r k2 w x1 x2 x3 x4 => z_sl_kept0 x4 (y4 b (by obtain ⟨ty2, u1, u2⟩ := h1.1 b u hb; exact z_cell_lt u2))⟩⟩, h3, fun q hq1 hq2 hq3 => ?_, Nat.le_trans h5.1 (by omega), fun q hq1 hq2 => ?_, h5.2.2⟩
        · obtain ⟨ty2, g1, g2⟩ := h1.1 b u hb
          exact ⟨ty2, g1, z_cell_kept g2 (y4 b (z_cell_lt g2))⟩
        · obtain ⟨g1, g2⟩ := h4 q hq1 hq2 hq3
          exact ⟨g1, by rw [y4 q (by omega)]; exact g2⟩
        · rw [y4 q (by omega)]; exact h5.2.1 q hq1 hq2
    · cases h
  · cases h
theorem z_fx_rem {n0 : Nat} {d : Nat} {a tau : Nat} (hd : env[d]? = some (.ref a)) : ∀ {X : List (Nat × Nat)}, z_fx D cl T sz n0 raw H env X → (∀ p ∈ X, p.1 ≠ d → env[p.1]? ≠ some (.ref a)) → z_fx D cl (z_T1 T a tau) sz n0 raw H env (X.filter (fun p => !(Nat.beq p.1 d)))
  | [], h, _ => h
  | x :: X, ⟨⟨b, h1, h2, h3, h4, h5⟩, hr⟩, hn => by
    have ih := z_fx_rem (tau := tau) hd hr (fun p hp => hn p (List.mem_cons_of_mem _ hp))
    unfold List.filter
    cases hx : Nat.beq x.1 d with
    | true => exact ih
    | false =>
      have hne : x.1 ≠ d := fun h => by rw [h] at hx; simp at hx
      have hba : b ≠ a := fun h => by subst h; exact hn x List.mem_cons_self hne h1
      exact ⟨⟨b, h1, by rw [z_T1_ne hba]; exact h2, h3, h4, fun p hp => h5 p (List.mem_filter.mp hp).1⟩, ih⟩
theorem z_pub_ok (hpu : pu = false) (hg : z_Good p l e R s m args below meth c Q OB D DA cl TY PHI sz raw pu T0 H0 env0 nL good) {d tau : Nat} (hTY : ∀ ci fl, TY[tau]? = some (.inl (ci, fl)) → ∀ r, cl[ci]? = some r → fl.length = r.2.2) (h : z_pub TY st d tau = some st') (k : good pc st') : good pc st := by
  refine (hg _ _).mpr fun T H locs env ls stk hs => ?_
  unfold z_pub at h
  split at h
  · rename_i q o hq ho
    obtain ⟨hc, rfl⟩ := z_cond h
    rw [Bool.and_eq_true, Bool.and_eq_true] at hc
    have hm := List.mem_of_find?_eq_some hq
    have hi0 := List.find?_some hq
    have hi : q.1 = d := z_beq hi0
    obtain ⟨ci, fl⟩ := o
    have hci : ci = q.2 := z_beq hc.1.1
    subst hci
    have hnew : q.2 ≠ 12 ∧ q.2 ≠ 4 := by
      have h5 : (!(Nat.beq q.2 12) && !(Nat.beq q.2 4)) = true := hc.1.2
      rw [Bool.and_eq_true] at h5
      refine ⟨fun e => ?_, fun e => ?_⟩
      · have h6 := h5.1
        rw [e] at h6
        exact absurd h6 (by decide)
      · have h6 := h5.2
        rw [e] at h6
        exact absurd h6 (by decide)
    obtain ⟨a, g1, g2, g3, r, V, g4, g5⟩ := z_fx_in hs.2.2.2.2.2.2.2.2.1 q hm
    rw [hi] at g1
    have hfl := hTY _ _ ho r g4
    have hmem := hs.2.2.2.2.2.2.2.2.2
    have hcell : z_cell OB D DA cl (z_T1 T a tau) H a (.inl (q.2, fl)) := by
      refine ⟨r, g4, hfl, V, g5, fun j c1 hj => ?_⟩
      have hlt : j < fl.length := (List.getElem?_eq_some_iff.mp hj).1
      have h1 := List.all_eq_true.mp hc.2 j (List.mem_range.mpr hlt)
      split at h1
      · rename_i c2 w hc2 hw
        have hj2 : fl[j]? = some c2 := hc2
        rw [hj] at hj2
        cases hj2
        obtain ⟨a2, v2, y1, y2, cell, y3, y4, y5⟩ := z_ffind_ok hw hs
        rw [g1] at y1
        cases y1
        split at h1
        · rename_i cw hcw
          obtain ⟨v3, y6, y7⟩ := z_get_ok hs.2.2.2.2.1 hcw
          rw [y2] at y6
          cases y6
          obtain ⟨cell2, x1, x2, x3, x4⟩ := g5
          rw [y3] at x1
          cases x1
          have := x4 j (by omega)
          rw [y5] at this
          cases this
          exact z_v_mono (z_T1_sub g2) (z_le_ok h1 y7)
        · cases h1
      · cases h1
    have hbase : ∀ b t, z_T1 T a tau b = some t → ∃ ty, TY[t]? = some ty ∧ z_cell OB D DA cl (z_T1 T a tau) H b ty := by
      intro b t hb2
      by_cases eb : b = a
      · subst eb
        rw [z_T1_at] at hb2
        cases hb2
        exact ⟨_, ho, hcell⟩
      · rw [z_T1_ne eb] at hb2
        obtain ⟨ty2, y1, y2⟩ := hmem.1.1 b t hb2
        exact ⟨ty2, y1, z_cell_mono (z_T1_sub g2) y2⟩
    have hms := z_mem_grow hpu (tau := tau) (H1 := H) hmem g2 ho hcell (Nat.le_refl _) (fun b _ _ => rfl) g3.1 g3.2 (fun b _ => rfl) (fun ci fl hh => by rw [ho] at hh; cases hh; exact hnew)
    refine (hg _ _).mp k (z_T1 T a tau) H locs env ls stk ⟨hs.1, hs.2.1, hs.2.2.1, hs.2.2.2.1, fun f hf => ?_, hs.2.2.2.2.2.1, hs.2.2.2.2.2.2.1, hs.2.2.2.2.2.2.2.1, z_fx_rem g1 hs.2.2.2.2.2.2.2.2.1 (fun p hp hne => ?_), hms⟩
    · rcases List.mem_cons.mp hf with rfl | hf
      · exact ⟨_, g1, a, rfl, z_T1_at⟩
      · exact z_fv_mono (z_T1_sub g2) hs.2.2.2.2.1 f hf
    · exact z_fx_apart hs.2.2.2.2.2.2.2.2.1 hm hp (by rw [hi]; exact fun h => hne h.symm) (by rw [hi]; exact g1)
  · cases h
theorem z_mp_ok {ph : Nat} {T' : zTp} (h : ∀ b, T' b = (T b).map (z_phi PHI ph)) {c : zV} {v : Value} (hv : z_v OB T c v) : z_v OB T' (z_mp PHI ph c) v := by
  match c, hv with
  | .inl r, hv => exact hv
  | .inr (.inl t), ⟨a, e, ha⟩ => exact ⟨a, e, by rw [h, ha]; rfl⟩
  | .inr (.inr 0), hv => exact hv
  | .inr (.inr (k + 1)), hv => exact hv
theorem z_tle_ok {ph : Nat} {T' : zTp} (h : ∀ b, T' b = (T b).map (z_phi PHI ph)) {a b : zTy} (hl : z_tle PHI ph a b = true) {q : Nat} (hc : z_cell OB D DA cl T H q a) : z_cell OB D DA cl T' H q b := by
  cases a with
  | inl o =>
    cases b with
    | inr b => cases hl
    | inl b =>
      unfold z_tle at hl
      simp only [Bool.and_eq_true] at hl
      obtain ⟨⟨h1, h2⟩, h3⟩ := hl
      obtain ⟨r, g1, g2, V, g3, g4⟩ := hc
      have e1 := z_beq h1
      have e2 := z_beq h2
      rw [e1] at g1 g3
      refine ⟨r, g1, by rw [← e2]; exact g2, V, g3, fun k c hk => ?_⟩
      have hlt : k < b.2.length := (List.getElem?_eq_some_iff.mp hk).1
      have h4 := List.all_eq_true.mp h3 k (List.mem_range.mpr hlt)
      split at h4
      · rename_i x y hx hy
        rw [hk] at hy
        cases hy
        exact z_le_ok h4 (z_mp_ok h (g4 k x hx))
      · cases h4
  | inr o =>
    cases b with
    | inl b => cases hl
    | inr b =>
      unfold z_tle at hl
      simp only [Bool.and_eq_true] at hl
      obtain ⟨⟨⟨h1, h2⟩, h3⟩, h4⟩ := hl
      obtain ⟨n, f, g1, g2, g3, g4, g5⟩ := hc
      have e1 := z_beq h1
      rw [e1] at g1
      refine ⟨n, f, g1, Nat.le_trans (Nat.le_of_ble_eq_true h2) g2, Nat.le_trans g3 (Nat.le_of_ble_eq_true h3), g4, fun g hg j hj1 hj2 hj3 => ?_⟩
      obtain ⟨x, hx1, hx2⟩ := List.any_eq_true.mp (List.all_eq_true.mp h4 g hg)
      simp only [Bool.and_eq_true] at hx2
      exact z_le_ok hx2.2 (z_mp_ok h (g5 x hx1 j hj1 (Nat.le_trans (Nat.le_of_ble_eq_true hx2.1.1) hj2) (Nat.le_trans hj3 (Nat.le_of_ble_eq_true hx2.1.2))))
theorem z_ht_map {ph : Nat} (hp : z_phok TY PHI ph = true) (h : z_ht OB D DA cl TY T H) : z_ht OB D DA cl TY (fun b => (T b).map (z_phi PHI ph)) H := by
  refine ⟨fun a t ht => ?_, zJ_map h.2 fun a u hT ci fl hty => ?_⟩
  · cases hT : T a with
    | none => simp [hT] at ht
    | some u =>
      have hu : t = z_phi PHI ph u := by simp [hT] at ht; exact ht.symm
      subst hu
      obtain ⟨ty, g1, g2⟩ := h.1 a u hT
      have hlt : u < TY.length := (List.getElem?_eq_some_iff.mp g1).1
      have h1 := List.all_eq_true.mp hp u (List.mem_range.mpr hlt)
      split at h1
      · rename_i x y hx hy
        rw [g1] at hx
        cases hx
        exact ⟨y, hy, z_tle_ok (fun b => rfl) h1 g2⟩
      · cases h1
  · obtain ⟨ty, g1, g2⟩ := h.1 a u hT
    have hlt : u < TY.length := (List.getElem?_eq_some_iff.mp g1).1
    have h1 := List.all_eq_true.mp hp u (List.mem_range.mpr hlt)
    split at h1
    · rename_i x y hx hy
      rw [hty] at hy
      cases hy
      cases x with
      | inl q =>
        simp only [z_tle, Bool.and_eq_true] at h1
        obtain ⟨qc, qf⟩ := q
        have hq : qc = ci := z_beq h1.1.1
        subst hq
        exact ⟨qf, hx⟩
      | inr q => simp [z_tle] at h1
    · cases h1
theorem z_mem_map (hpu : pu = false) {ph : Nat} (hp : z_phok TY PHI ph = true) (h : z_mem OB D DA cl TY PHI sz raw pu T0 H0 T H locs 0) : z_mem OB D DA cl TY PHI sz raw pu T0 H0 (fun b => (T b).map (z_phi PHI ph)) H locs ph := by
  obtain ⟨h1, h2, h3, h4, h5⟩ := h
  refine ⟨z_ht_map hp h1, ⟨fun a t ht => ?_, (fun h => by rw [hpu] at h; cases h), z_fin_tr h2.2.2 fun b u ci fl hb hty2 => ?_⟩, fun a t ht => ?_, fun q hq1 hq2 hq3 => ?_, h5⟩
  · cases hT : T a with
    | none => simp [hT] at ht
    | some u => exact h2.1 a u hT
  · have hlt : u < TY.length := (List.getElem?_eq_some_iff.mp hty2).1
    have g1 := List.all_eq_true.mp hp u (List.mem_range.mpr hlt)
    split at g1
    · rename_i x y hx hy
      rw [hty2] at hx
      cases hx
      match y, g1, hy with
      | .inl q, g1, hy =>
        simp only [z_tle, Bool.and_eq_true] at g1
        obtain ⟨qc, qf⟩ := q
        have hq : ci = qc := z_beq g1.1.1
        subst hq
        exact ⟨_, qf, by simp [hb], hy, fun r k2 w x1 x2 x3 x4 => x4⟩
      | .inr q, g1, hy => simp [z_tle] at g1
    · cases g1
  · have := h3 a t ht
    simp only [this]
    rfl
  · obtain ⟨g1, g2⟩ := h4 q hq1 hq2 hq3
    exact ⟨by simp [g1], g2⟩
theorem z_fx_map {n0 ph : Nat} : ∀ {X : List (Nat × Nat)}, z_fx D cl T sz n0 raw H env X → z_fx D cl (fun b => (T b).map (z_phi PHI ph)) sz n0 raw H env X
  | [], h => h
  | x :: X, ⟨⟨b, h1, h2, h3⟩, hr⟩ => ⟨⟨b, h1, by simp [h2], h3⟩, z_fx_map hr⟩
theorem z_rty_ok (hpu : pu = false) (hg : z_Good p l e R s m args below meth c Q OB D DA cl TY PHI sz raw pu T0 H0 env0 nL good) {ph : Nat} (hp : z_phok TY PHI ph = true) (h : z_rty PHI st ph = some st') (k : good pc st') : good pc st := by
  refine (hg _ _).mpr fun T H locs env ls stk hs => ?_
  obtain ⟨hc, rfl⟩ := z_cond h
  have h0 : z_ph st = 0 := z_beq hc
  have hmem := hs.2.2.2.2.2.2.2.2.2
  rw [h0] at hmem
  refine (hg _ _).mp k (fun b => (T b).map (z_phi PHI ph)) H locs env ls stk ⟨hs.1, hs.2.1, hs.2.2.1, hs.2.2.2.1, fun f hf => ?_, hs.2.2.2.2.2.1, hs.2.2.2.2.2.2.1, hs.2.2.2.2.2.2.2.1, z_fx_map hs.2.2.2.2.2.2.2.2.1, z_mem_map hpu hp hmem⟩
  obtain ⟨q, hq, rfl⟩ := List.mem_map.mp hf
  obtain ⟨v, e1, e2⟩ := hs.2.2.2.2.1 q hq
  exact ⟨v, e1, z_mp_ok (fun b => rfl) e2⟩
theorem z_r_lconst (hg : z_Good p l e R s m args below meth c Q OB D DA cl TY PHI sz raw pu T0 H0 env0 nL good) (hx : p.tables.exec = Jvm.exec) (hb : c.code = cc) {n : Fin 2} (hd : decode cc pc = .ok (.lconst n, 1)) (h : z_lc0 st = some st') (k : good (pc + 1) st') : good pc st := by
  refine (hg _ _).mpr fun T H locs env ls stk hs => ?_
  cases h
  exact lv_lconst hx hb hd rfl ((hg _ _).mp k T H locs _ ls _ (z_sat_psh hs hs.2.2.2.1 (c := .inr (.inr 0)) ⟨_, rfl⟩ (fun q hq => absurd hq List.not_mem_nil)))
theorem z_r_lshl (hg : z_Good p l e R s m args below meth c Q OB D DA cl TY PHI sz raw pu T0 H0 env0 nL good) (hx : p.tables.exec = Jvm.exec) (hb : c.code = cc) (hd : decode cc pc = .ok (.lshl, 1)) (h : z_lsh st = some st') (k : good (pc + 1) st') : good pc st := by
  refine (hg _ _).mpr fun T H locs env ls stk hs => ?_
  unfold z_lsh at h
  split at h
  · rename_i y x S hS
    split at h
    · rename_i r hxx hyy
      cases h
      obtain ⟨vy, k1, rfl, e1, vx, k2, rfl, e2, hk2⟩ := z_stk_cons hS hs.2.2.2.1
      obtain ⟨v, e3, x1, rfl⟩ := z_get_ok hs.2.2.2.2.1 hxx
      obtain ⟨w, e4, y1, rfl, _⟩ := z_get_ok hs.2.2.2.2.1 hyy
      have q1 : vx = .long x1 := Option.some.inj (e2.symm.trans e3)
      have q2 : vy = .int y1 := Option.some.inj (e1.symm.trans e4)
      subst q1; subst q2
      exact lv_lshl hx hb hd rfl ((hg _ _).mp k T H locs _ ls _ (z_sat_psh hs hk2 (c := .inr (.inr 0)) ⟨_, rfl⟩ (fun q hq => absurd hq List.not_mem_nil)))
    · cases h
  · cases h
theorem z_r_lor (hg : z_Good p l e R s m args below meth c Q OB D DA cl TY PHI sz raw pu T0 H0 env0 nL good) (hx : p.tables.exec = Jvm.exec) (hb : c.code = cc) (hd : decode cc pc = .ok (.lor, 1)) (h : z_l2 (.inr (.inr 0)) st = some st') (k : good (pc + 1) st') : good pc st := by
  refine (hg _ _).mpr fun T H locs env ls stk hs => ?_
  unfold z_l2 at h
  split at h
  · rename_i y x S hS
    split at h
    · rename_i hxx hyy
      cases h
      obtain ⟨vy, k1, rfl, e1, vx, k2, rfl, e2, hk2⟩ := z_stk_cons hS hs.2.2.2.1
      obtain ⟨v, e3, x1, rfl⟩ := z_get_ok hs.2.2.2.2.1 hxx
      obtain ⟨w, e4, y1, rfl⟩ := z_get_ok hs.2.2.2.2.1 hyy
      have q1 : vx = .long x1 := Option.some.inj (e2.symm.trans e3)
      have q2 : vy = .long y1 := Option.some.inj (e1.symm.trans e4)
      subst q1; subst q2
      exact lv_lor hx hb hd ((hg _ _).mp k T H locs _ ls _ (z_sat_psh hs hk2 (c := .inr (.inr 0)) ⟨_, rfl⟩ (fun q hq => absurd hq List.not_mem_nil)))
    · cases h
  · cases h
theorem z_r_lcmp (hg : z_Good p l e R s m args below meth c Q OB D DA cl TY PHI sz raw pu T0 H0 env0 nL good) (hx : p.tables.exec = Jvm.exec) (hb : c.code = cc) (hd : decode cc pc = .ok (.lcmp, 1)) (h : z_l2 (.inl z_full) st = some st') (k : good (pc + 1) st') : good pc st := by
  refine (hg _ _).mpr fun T H locs env ls stk hs => ?_
  unfold z_l2 at h
  split at h
  · rename_i y x S hS
    split at h
    · rename_i hxx hyy
      cases h
      obtain ⟨vy, k1, rfl, e1, vx, k2, rfl, e2, hk2⟩ := z_stk_cons hS hs.2.2.2.1
      obtain ⟨v, e3, x1, rfl⟩ := z_get_ok hs.2.2.2.2.1 hxx
      obtain ⟨w, e4, y1, rfl⟩ := z_get_ok hs.2.2.2.2.1 hyy
      have q1 : vx = .long x1 := Option.some.inj (e2.symm.trans e3)
      have q2 : vy = .long y1 := Option.some.inj (e1.symm.trans e4)
      subst q1; subst q2
      exact W.lcmp hx hb hd ((hg _ _).mp k T H locs _ ls _ (z_sat_psh hs hk2 (z_vi (z_in_full _)) (fun q hq => absurd hq List.not_mem_nil)))
    · cases h
  · cases h
end ZMAKES2
