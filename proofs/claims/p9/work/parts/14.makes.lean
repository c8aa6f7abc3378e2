/-! New cells; a new object becomes one of a type; types made wider. -/
def z_at (t : ArrayType) : Option Nat := match t with
  | .int => some 0
  | .byte => some 1
  | .long => some 2
  | _ => none
def z_dfl (ek : Nat) : zV := match ek with
  | 0 => .inl (0, 0)
  | 1 => .inl (0, 0)
  | _ => .inr (.inr 0)
def z_nwa (TY : List zTy) (mc ms : Nat) (tau : Nat) (ek : Nat) (st : zS) : Option zS := match z_S st with
  | x :: S => (match z_get (z_V st) x with
    | some (.inl r) => (match TY[tau]? with
      | some (.inr q) => cond (z_ile 0 r.1 && z_ile r.2 r.1 && Nat.ble r.1.toNat 1000000 && Nat.beq q.1 ek && Nat.ble q.2.1.1 r.1.toNat && Nat.ble r.1.toNat q.2.1.2 && q.2.2.all (fun g => z_le (z_dfl ek) g.2) && Nat.ble ((z_C st).1 + 1) mc && Nat.ble ((z_C st).2 + r.1.toNat) ms)
          (some (z_L st, z_n st :: S, z_n st + 1, (z_n st, .inr (.inl tau)) :: z_V st, z_F st, z_E st, z_R st, z_X st, ((z_C st).1 + 1, (z_C st).2 + r.1.toNat), z_ph st)) none
      | _ => none)
    | _ => none)
  | _ => none
def z_zf (ty : FieldType) : Bool := match ty with
  | .int => true
  | .boolean => true
  | _ => false
def z_new (CL : List (Nat × Nat)) (cl : List vw_C) (FT : Nat → Nat → FieldType) (mc ms : Nat) (st : zS) (i : Nat) : Option zS := match CL.find? (fun q => Nat.beq q.1 i) with
  | some q => (match cl[q.2]? with
    | some r => cond (Nat.ble ((z_C st).1 + 1) mc && Nat.ble ((z_C st).2 + r.2.2) ms)
        (some (z_L st, z_n st :: z_S st, z_n st + 2, (z_n st + 1, .inl (0, 0)) :: z_V st, ((List.range r.2.2).filter (fun k => z_zf (FT q.2 k))).map (fun k => (z_n st, q.2, k, z_n st + 1)) ++ z_F st, z_E st, z_R st, (z_n st, q.2) :: z_X st, ((z_C st).1 + 1, (z_C st).2 + r.2.2), z_ph st)) none
    | none => none)
  | none => none
def z_pub (TY : List zTy) (st : zS) (d tau : Nat) : Option zS := match (z_X st).find? (fun q => Nat.beq q.1 d), TY[tau]? with
  | some q, some (.inl o) => cond (Nat.beq o.1 q.2 && (!(Nat.beq o.1 12) && !(Nat.beq o.1 4)) && (List.range o.2.length).all (fun k => match o.2[k]?, z_ffind st d q.2 k with
      | some c, some w => (match z_get (z_V st) w with
        | some cw => z_le cw c
        | none => false)
      | _, _ => false)) (some (z_L st, z_S st, z_n st, (d, .inr (.inl tau)) :: z_V st, z_F st, z_E st, z_R st, (z_X st).filter (fun p => !(Nat.beq p.1 d)), z_C st, z_ph st)) none
  | _, _ => none
section ZMAKES
variable {p : Program} {l : Launch} {e : Env} {R : Room} {s : State} {m : MethodId} {args : Array Value} {below : List Frame} {meth : Method} {c : Code} {Q : State → Prop} {cc : ByteArray} {pc : Nat}
variable {OB : Nat → Nat} {D : va_G} {DA : Nat → ClassId} {cl : List vw_C} {TY : List zTy} {PHI : List (List Nat)} {sz : Nat} {raw : Option Nat} {pu : Bool} {T0 : zTp} {H0 : Heap} {env0 : List Value} {nL : Nat} {st st' : zS} {good : Nat → zS → Prop}
variable {Ts : List Cond} {own : String} {FT : Nat → Nat → FieldType} {FL : List (Nat × Nat × Nat)} {CL : List (Nat × Nat)} {tys : List (ClassId × FieldType)}
variable {T : zTp} {H : Heap} {locs : List Loc} {env : List Value} {ls : Array Slot} {stk : List Value} {cells slots : Nat} {rest : List Value}
theorem z_v_mono {T T' : zTp} (h : ∀ b t, T b = some t → T' b = some t) {c : zV} {v : Value} (hv : z_v OB T c v) : z_v OB T' c v := by
  match c, hv with
  | .inl r, hv => exact hv
  | .inr (.inl t), ⟨a, e, ha⟩ => exact ⟨a, e, h a t ha⟩
  | .inr (.inr 0), hv => exact hv
  | .inr (.inr (k + 1)), hv => exact hv
theorem z_cell_mono {T T' : zTp} (h : ∀ b t, T b = some t → T' b = some t) {a : Nat} {ty : zTy} (hc : z_cell OB D DA cl T H a ty) : z_cell OB D DA cl T' H a ty := by
  cases ty with
  | inl o =>
    obtain ⟨r, h1, h2, V, h3, h4⟩ := hc
    exact ⟨r, h1, h2, V, h3, fun k c hk => z_v_mono h (h4 k c hk)⟩
  | inr q =>
    obtain ⟨n, f, h1, h2, h3, h4, h5⟩ := hc
    exact ⟨n, f, h1, h2, h3, h4, fun g hg j h6 h7 h8 => z_v_mono h (h5 g hg j h6 h7 h8)⟩
theorem z_T1_sub {T : zTp} {a tau : Nat} (ha : T a = none) : ∀ b t, T b = some t → z_T1 T a tau b = some t := by
  intro b t hb
  unfold z_T1
  rw [if_neg (fun h => by subst h; rw [ha] at hb; cases hb)]
  exact hb
theorem z_cell_lt {a : Nat} {ty : zTy} (h : z_cell OB D DA cl T H a ty) : a < H.size := by
  cases ty with
  | inl o =>
    obtain ⟨r, h1, h2, V, ⟨cell, h3, -⟩, h4⟩ := h
    exact (Array.getElem?_eq_some_iff.mp h3).1
  | inr q =>
    obtain ⟨n, f, h1, -⟩ := h
    exact (Array.getElem?_eq_some_iff.mp h1).1
theorem z_mem_lt {ph : Nat} (h : z_mem OB D DA cl TY PHI sz raw pu T0 H0 T H locs ph) {a t : Nat} (ha : T a = some t) : a < H.size := by
  obtain ⟨ty, h1, h2⟩ := h.1.1 a t ha
  exact z_cell_lt h2
/-- a cell gets a type -/
theorem z_mem_grow (hpu : pu = false) {ph tau : Nat} {H1 : Heap} {a : Nat} {ty : zTy} (h : z_mem OB D DA cl TY PHI sz raw pu T0 H0 T H locs ph) (ha : T a = none) (hty : TY[tau]? = some ty) (hc : z_cell OB D DA cl (z_T1 T a tau) H1 a ty) (hz : H.size ≤ H1.size) (oq : ∀ b : Nat, b < H.size → b ≠ a → H1[b]? = H[b]?) (hsz : sz ≤ a) (hr : H0.size ≤ a ∨ raw = some a) (h0 : ∀ b : Nat, b < H0.size → H1[b]? = H[b]?) (hn : ∀ ci fl, TY[tau]? = some (.inl (ci, fl)) → ci ≠ 12 ∧ ci ≠ 4) :
    z_mem OB D DA cl TY PHI sz raw pu T0 H0 (z_T1 T a tau) H1 locs ph := by
  obtain ⟨h1, h2, h3, h4, h5⟩ := h
  refine ⟨⟨fun b u hb => ?_, zJ_grow h1.2 ha (fun b u hb => by obtain ⟨ty2, y1, y2⟩ := h1.1 b u hb; exact z_cell_lt y2) oq hn⟩, ⟨fun b u hb => ?_, (fun h => by rw [hpu] at h; cases h), z_fin_tr h2.2.2 fun b u ci fl hb hty2 => ⟨u, fl, z_T1_sub ha _ _ hb, hty2, fun r k2 w x1 x2 x3 x4 => z_sl_kept0 x4 (oq b (by obtain ⟨ty2, y1, y2⟩ := h1.1 b u hb; exact z_cell_lt y2) (fun e => by subst e; rw [hb] at ha; cases ha))⟩⟩, fun b u hb => z_T1_sub ha _ _ (h3 b u hb), fun q hq1 hq2 hq3 => ?_, Nat.le_trans h5.1 hz, fun q hq1 hq2 => ?_, h5.2.2⟩
  · by_cases e : b = a
    · subst e
      rw [z_T1_at] at hb
      cases hb
      exact ⟨ty, hty, hc⟩
    · rw [z_T1_ne e] at hb
      obtain ⟨ty2, g1, g2⟩ := h1.1 b u hb
      exact ⟨ty2, g1, z_cell_mono (z_T1_sub ha) (z_cell_kept g2 (oq b (z_cell_lt g2) e))⟩
  · by_cases e : b = a
    · rw [e]; exact hsz
    · rw [z_T1_ne e] at hb; exact h2.1 b u hb
  · obtain ⟨g1, g2⟩ := h4 q hq1 hq2 hq3
    have hqa : q ≠ a := by
      intro e
      subst e
      rcases hr with h | h
      · omega
      · exact hq3 h
    exact ⟨by rw [z_T1_ne hqa]; exact g1, by rw [h0 q hq1]; exact g2⟩
  · rw [h0 q hq1]; exact h5.2.1 q hq1 hq2
theorem z_fv_mono {T T' : zTp} (h : ∀ b t, T b = some t → T' b = some t) {V : List (Nat × zV)} (hv : z_fv OB T env V) : z_fv OB T' env V := fun q hq => by
  obtain ⟨v, e1, e2⟩ := hv q hq
  exact ⟨v, e1, z_v_mono h e2⟩
theorem z_fx_grow {n0 tau : Nat} {H1 : Heap} {a : Nat} (oq : ∀ b : Nat, b < H.size → H1[b]? = H[b]?) : ∀ {X : List (Nat × Nat)}, (∀ p ∈ X, env[p.1]? ≠ some (.ref a)) → z_fx D cl T sz n0 raw H env X → z_fx D cl (z_T1 T a tau) sz n0 raw H1 env X
  | [], _, h => h
  | x :: X, ha, ⟨⟨b, h1, h2, h3, ⟨r, V, h4, h4b⟩, h5⟩, hr⟩ => by
    have hb : b ≠ a := fun e => by subst e; exact ha x List.mem_cons_self h1
    have hlt : b < H.size := by
      obtain ⟨cell, x1, -⟩ := h4b
      exact (Array.getElem?_eq_some_iff.mp x1).1
    exact ⟨⟨b, h1, by rw [z_T1_ne hb]; exact h2, h3, ⟨r, V, h4, h4b.kept (oq b hlt)⟩, h5⟩, z_fx_grow oq (fun p hp => ha p (List.mem_cons_of_mem _ hp)) hr⟩
theorem z_fx_push {n0 : Nat} {H1 : Heap} (oq : ∀ b : Nat, b < H.size → H1[b]? = H[b]?) : ∀ {X : List (Nat × Nat)}, z_fx D cl T sz n0 raw H env X → z_fx D cl T sz n0 raw H1 env X
  | [], h => h
  | x :: X, ⟨⟨b, h1, h2, h3, ⟨r, V, h4, h4b⟩, h5⟩, hr⟩ => by
    have hlt : b < H.size := by
      obtain ⟨cell, x1, -⟩ := h4b
      exact (Array.getElem?_eq_some_iff.mp x1).1
    exact ⟨⟨b, h1, h2, h3, ⟨r, V, h4, h4b.kept (oq b hlt)⟩, h5⟩, z_fx_push oq hr⟩
theorem z_ff_push {H1 : Heap} (oq : ∀ b : Nat, b < H.size → H1[b]? = H[b]?) {F : List (Nat × Nat × Nat × Nat)} (h : z_ff D cl H env F) : z_ff D cl H1 env F := fun q hq => by
  obtain ⟨a, w, r, e1, e2, e3, e4, cell, e5, e6⟩ := h q hq
  exact ⟨a, w, r, e1, e2, e3, e4, cell, by rw [oq a (Array.getElem?_eq_some_iff.mp e5).1]; exact e5, e6⟩
theorem z_fe_push {H1 : Heap} (oq : ∀ b : Nat, b < H.size → H1[b]? = H[b]?) {E : List (Nat × Nat × Nat)} (h : z_fe H env E) : z_fe H1 env E := fun q hq => by
  obtain ⟨a, x, w, e1, e2, e3, e4, cell, e5, e6⟩ := h q hq
  exact ⟨a, x, w, e1, e2, e3, e4, cell, by rw [oq a (Array.getElem?_eq_some_iff.mp e5).1]; exact e5, e6⟩
theorem z_r_nwa (hpu : pu = false) (hg : z_Good p l e R s m args below meth c Q OB D DA cl TY PHI sz raw pu T0 H0 env0 nL good) (hx : p.tables.exec = Jvm.exec) (hb : c.code = cc) (hD : z_Dy s m args Ts own D cl DA tys) (hAr : ∀ k, k < 3 → Cond.arrayClass (z_ek k) ∈ Ts) (hsz : sz ≤ H0.size) {aty : ArrayType} {ek tau : Nat} (hat : z_at aty = some ek) (hd : decode cc pc = .ok (.newarray aty, 2)) (h : z_nwa TY R.cells R.slots tau ek st = some st') (k : good (pc + 2) st') : good pc st := by
  refine (hg _ _).mpr fun T H locs env ls stk hs => ?_
  have hek : ek < 3 ∧ newarray.typeOf aty = z_ek ek := by
    cases aty <;> simp only [z_at, Option.some.injEq, reduceCtorEq] at hat <;> subst hat <;> exact ⟨by omega, rfl⟩
  unfold z_nwa at h
  split at h
  · rename_i x S hS
    split at h
    · rename_i r hr
      split at h
      · rename_i q hq
        obtain ⟨hc, rfl⟩ := z_cond h
        simp only [Bool.and_eq_true] at hc
        obtain ⟨⟨⟨⟨⟨⟨⟨⟨c1, c2⟩, c3⟩, c4⟩, c5⟩, c6⟩, c7⟩, c8⟩, c9⟩ := hc
        obtain ⟨ek2, ⟨lo, hi⟩, sg⟩ := q
        have he : ek2 = ek := z_beq c4
        subst he
        obtain ⟨vx, k2, rfl, e2, hk2⟩ := z_stk_cons hS hs.2.2.2.1
        obtain ⟨w, e3, x1, rfl, hx1⟩ := z_get_ok hs.2.2.2.2.1 hr
        have q1 : vx = .int x1 := Option.some.inj (e2.symm.trans e3)
        subst q1
        have l1 := z_ile_ok c1
        have l2 := z_ile_ok c2
        obtain ⟨u1, u2⟩ := hx1
        have hN : x1.toNatClampNeg = r.1.toNat := by rw [z_clamp]; omega
        have l3 : r.1.toNat ≤ 1000000 := Nat.le_of_ble_eq_true c3
        have l5 : lo ≤ r.1.toNat := Nat.le_of_ble_eq_true c5
        have l6 : r.1.toNat ≤ hi := Nat.le_of_ble_eq_true c6
        have hcb : componentBytes (z_ek ek2) ≤ 8 := by
          obtain ⟨h1, -⟩ := hek
          match ek2, h1 with
          | 0, _ => decide
          | 1, _ => decide
          | 2, _ => decide
        refine va_newaK hx hb (by rw [hek.2]; exact hD.1 _ (hAr _ hek.1)) rfl hd rfl (fun hneg => ?_) hN ?_ (Nat.le_of_ble_eq_true c8) (Nat.le_of_ble_eq_true c9) rfl fun H1 cA y1 y2 y3 y4 y5 => ?_
        · have := Int32.lt_iff_toInt_lt.mp hneg
          have z0 : (0 : Int32).toInt = 0 := rfl
          omega
        · rw [hek.2]
          have := Nat.mul_le_mul l3 hcb
          omega
        have hcA : cA = DA ek2 := by
          have h1 := (hD.2.2.1.2 ek2 _ (hD.2.2.2 ek2 hek.1)).2
          rw [hek.2] at y5
          have h2 : va_RA s (DA ek2) (z_ek ek2) := h1
          have h3 : s.vm.findClass ("[" ++ (z_ek ek2).toString) = some (DA ek2) := by
            obtain ⟨h0, -⟩ := hek
            match ek2, h0, h2 with
            | 0, _, h2 => exact h2
            | 1, _, h2 => exact h2
            | 2, _, h2 => exact h2
          rw [y5] at h3
          exact Option.some.inj h3
        subst hcA
        have hmem := hs.2.2.2.2.2.2.2.2.2
        have hTn : T H.size = none := by
          cases hT : T H.size with
          | none => rfl
          | some t => exact absurd (z_mem_lt hmem hT) (Nat.lt_irrefl _)
        have hsz1 : H0.size ≤ H.size := hmem.2.2.2.2.1
        have hcell : z_cell OB D DA cl (z_T1 T H.size tau) H1 H.size (.inr (ek2, (lo, hi), sg)) := by
          refine ⟨_, _, y1, l5, l6, by omega, fun g hg2 j _ _ _ => z_le_ok (List.all_eq_true.mp c7 g hg2) ?_⟩
          rw [hek.2]
          obtain ⟨h0, -⟩ := hek
          match ek2, h0 with
          | 0, _ => exact ⟨0, rfl, Int.le_refl _, Int.le_refl _⟩
          | 1, _ => exact ⟨0, rfl, Int.le_refl _, Int.le_refl _⟩
          | 2, _ => exact ⟨0, rfl⟩
        have hm := z_mem_grow hpu (tau := tau) (H1 := H1) hmem hTn hq hcell (by omega) (fun b hb1 _ => y3 b hb1) (by omega) (Or.inl hsz1) (fun b hb1 => y3 b (by omega)) (fun ci fl hh => by rw [hq] at hh; cases hh)
        have hp := z_sat_psh hs hk2 (c := .inl (0, 0)) (v := .int 0) ⟨0, rfl, Int.le_refl _, Int.le_refl _⟩ (rs := []) (fun q hq => absurd hq List.not_mem_nil)
        have hn : (env ++ [Value.ref H.size])[z_n st]? = some (.ref H.size) := by rw [← hs.1]; simp
        refine (hg _ _).mp k (z_T1 T H.size tau) H1 locs (env ++ [.ref H.size]) ls _ ⟨by show (env ++ [Value.ref H.size]).length = z_n st + 1; rw [List.length_append, hs.1]; rfl, ?_, z_ls_app hs.2.2.1, ⟨_, _, rfl, hn, z_stk_app hk2⟩, fun f hf => ?_, z_ff_push y3 (z_ff_app hs.2.2.2.2.2.1), z_fe_push y3 (z_fe_app hs.2.2.2.2.2.2.1), z_fr_app hs.2.2.2.2.2.2.2.1, ?_, hm⟩
        · obtain ⟨w, hw⟩ := hs.2.1
          exact ⟨w ++ [.ref H.size], by rw [hw, List.append_assoc]⟩
        · rcases List.mem_cons.mp hf with rfl | hf
          · exact ⟨_, hn, H.size, rfl, z_T1_at⟩
          · exact z_fv_mono (z_T1_sub hTn) (z_fv_app hs.2.2.2.2.1) f hf
        · refine z_fx_grow y3 (fun p hp hpe => ?_) (z_fx_app hs.2.2.2.2.2.2.2.2.1)
          obtain ⟨b, b1, b2, b3, r2, V, b4, ⟨cell, b5, -⟩⟩ := z_fx_in (z_fx_app (w := [Value.ref H.size]) hs.2.2.2.2.2.2.2.2.1) p hp
          rw [b1] at hpe
          cases hpe
          exact absurd (Array.getElem?_eq_some_iff.mp b5).1 (Nat.lt_irrefl _)
      · cases h
    · cases h
  · cases h
end ZMAKES
