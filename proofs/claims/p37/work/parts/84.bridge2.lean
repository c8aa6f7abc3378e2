/-! What is kept of laws, over names. -/
def zb_Jm (cl : List vw_C) (TY : List zTy) (y : zNL) (NT KP : List Nat) (JB JA : List Int → List (Int → Int) → Prop) : Prop :=
  ∀ (OB : Nat → Nat) (D : va_G) (DA : Nat → ClassId) (T : zTp) (H : Heap) (A : Nat → Nat) (F : List Int) (G : List (Int → Int)),
    (∀ a t, T a = some t → ∃ ty, TY[t]? = some ty ∧ z_cell OB D DA cl T H a ty) → z_J OB D DA TY T H → (∀ c, c < n_N y → ∃ t, NT[c]? = some t ∧ T (A c) = some t) → zn_rep D DA cl y A F G H →
    JB F G ∧ ∀ (H1 : Heap) (F' : List Int) (G' : List (Int → Int)), (∀ a t, T a = some t → ∃ ty, TY[t]? = some ty ∧ z_cell OB D DA cl T H1 a ty) → zn_rep D DA cl y A F' G' H1 → zn_frm D cl y A H H1 → (∀ j ∈ KP, zn_l G' j = zn_l G j) → JA F' G' → z_J OB D DA TY T H1
def zb_no (TY : List zTy) (NT : List Nat) (ci : Nat) : Bool := TY.all (fun ty => match ty with
  | .inl o => !(Nat.beq o.1 ci) || ((zj_slots ci).all (fun k => Nat.blt k o.2.length) && (zj_refs ci).all (fun k => match o.2[k]? with
    | some (.inr (.inl u)) => NT.all (fun t => !(Nat.beq t u))
    | _ => false))
  | .inr _ => true)
def zb_sl (y : zNL) (ci : Nat) : Bool := (n_I y).all (fun q => !(Nat.beq q.2.1 ci) || !((zj_slots ci).any (fun k => Nat.beq k q.2.2.1)))
def zb_rl (TY : List zTy) (y : zNL) : Bool := TY.all (fun ty => match ty with
  | .inl o => (zj_refs o.1).all (fun k => Nat.blt k o.2.length)
  | .inr _ => true) && (n_I y).all (fun q => !((zj_refs q.2.1).any (fun k => Nat.beq k q.2.2.1)))
def zb_nt (NT : List Nat) (c : Option zV) (tk : Nat) : Bool := match c with
  | some (.inr (.inl u)) => NT.all (fun t => !(Nat.beq t u) || Nat.beq t tk)
  | _ => false
def zb_no4 (TY : List zTy) (NT : List Nat) (tk tv : Nat) : Bool := TY.all (fun ty => match ty with
  | .inl o => !(Nat.beq o.1 4) || (Nat.blt 1 o.2.length && (zb_nt NT o.2[0]? tk && zb_nt NT o.2[1]? tv))
  | .inr _ => true)
def zb_no12 (TY : List zTy) (NT : List Nat) (t1 t2 t3 t4 : Nat) : Bool := TY.all (fun ty => match ty with
  | .inl o => !(Nat.beq o.1 12) || (zb_nt NT o.2[20]? t1 && zb_nt NT o.2[22]? t2 && (zb_nt NT o.2[23]? t3 && zb_nt NT o.2[24]? t4))
  | .inr _ => true)
/-- what is claimed is kept: the fields are none of the written ones, the arrays are as they were -/
def zb_ck (TY : List zTy) (y : zNL) (NT KP : List Nat) : Bool := zc_CL.all (fun q => (List.range (n_N y)).all (fun c => match NT[c]? with
  | some t => !(Nat.beq t q.1) || (match q.2.2.1 with
    | .inl f => (match TY[t]? with
      | some (.inl o) => Nat.beq o.1 f.1 && Nat.blt f.2 o.2.length
      | _ => false) && (n_I y).all (fun i => !(Nat.beq i.2.1 f.1 && Nat.beq i.2.2.1 f.2))
    | .inr j => (n_A y).any (fun a => Nat.beq a.1 c && (Nat.beq a.2.1 0 && Nat.blt j a.2.2.1) && KP.any (fun x => Nat.beq x a.2.2.2)))
  | none => true))
theorem zp_J_cong {g1 h1 g2 h2 g3 h3 g4 h4 : Int → Int} {cs : Int} (h : zp_J g1 cs g2 g3 g4) (e1 : ∀ j : Int, 0 ≤ j → j < 200 → g1 j = h1 j) (e2 : ∀ j : Int, 0 ≤ j → j < 14 → g2 j = h2 j) (e3 : ∀ j : Int, 0 ≤ j → j < 14 → g3 j = h3 j) (e4 : ∀ j : Int, 0 ≤ j → j < 14 → g4 j = h4 j) : zp_J h1 cs h2 h3 h4 := by
  obtain ⟨D, cm, x1, x2, x3, x4, x5, x6⟩ := h
  refine ⟨D, cm, x1, x2, fun k k1 k2 => ?_, x4, x5, fun q q1 q2 => ?_⟩
  · have := x3 k k1 k2
    unfold zp_q at this ⊢
    rw [e1 k k1 (by omega)] at this
    exact this
  · have := x6 q q1 q2
    rw [e2 q q1 (by omega), e3 q q1 (by omega), e4 q q1 (by omega)] at this
    exact this
theorem zr_J_cong {g1 h1 g2 h2 : Int → Int} (h : zr_J g1 g2) (e1 : ∀ j : Int, 0 ≤ j → j < 200 → g1 j = h1 j) (e2 : ∀ j : Int, 0 ≤ j → j < 200 → g2 j = h2 j) : zr_J h1 h2 := by
  intro k k1 k2
  have := h k k1 k2
  rw [e1 k k1 k2, e2 k k1 k2] at this
  exact this
section ZBJ
variable {OB : Nat → Nat} {D : va_G} {DA : Nat → ClassId} {cl : List vw_C} {TY : List zTy} {T : zTp} {H H1 : Heap} {y : zNL} {NT : List Nat} {RC : List zbC} {A : Nat → Nat}
theorem zb_slk {a t ci k : Nat} {fl : List zV} {w : Value} (hw : zb_wf TY cl y NT RC = true) (hb : ∀ a t, T a = some t → ∃ ty, TY[t]? = some ty ∧ z_cell OB D DA cl T H a ty) (hA : ∀ c, c < n_N y → ∃ t, NT[c]? = some t ∧ T (A c) = some t) (hf : zn_frm D cl y A H H1)
    (ha : T a = some t) (hty : TY[t]? = some (.inl (ci, fl))) (hk : k < fl.length) (hki : ∀ q ∈ n_I y, q.2.1 = ci → q.2.2.1 ≠ k) (h : z_sl H a (D.2 ci k) w) : z_sl H1 a (D.2 ci k) w := by
  by_cases hn : ∃ c, c < n_N y ∧ A c = a
  · obtain ⟨c, hc, rfl⟩ := hn
    obtain ⟨u, u1, u2⟩ := hA c hc
    rw [ha] at u2
    cases u2
    have hm := (zb_wfN hw hc u1).1 ci fl hty
    obtain ⟨ty, h1, h2⟩ := hb _ _ ha
    rw [hty] at h1
    cases h1
    obtain ⟨r, q1, q2, -⟩ := h2
    refine hf.2.2 _ hm r k w q1 (by rw [← q2]; exact hk) (fun i him e1 e2 => ?_) h
    obtain ⟨t2, fl2, rr, k1, k2, k3, k4, k5⟩ := (zb_wfI hw).1 i him
    have e1 : i.1 = c := e1
    rw [e1, u1] at k1
    cases k1
    rw [hty] at k2
    have k2 := Option.some.inj k2
    have k2 : ci = i.2.1 := by cases k2; rfl
    exact hki i him k2.symm e2
  · obtain ⟨cell, c1, c2⟩ := h
    exact ⟨cell, by rw [hf.2.1 a (fun c hc e => hn ⟨c, hc, e⟩)]; exact c1, c2⟩
theorem zb_arn {b u : Nat} (hA : ∀ c, c < n_N y → ∃ t, NT[c]? = some t ∧ T (A c) = some t) (hf : zn_frm D cl y A H H1) (hu : T b = some u) (hn : ∀ c : Nat, c < n_N y → NT[c]? = some u → A c ≠ b) : H1[b]? = H[b]? :=
  hf.2.1 b (fun c hc e => by
    obtain ⟨t, t1, t2⟩ := hA c hc
    rw [e, hu] at t2
    cases t2
    exact hn c hc t1 e)
theorem zb_sl_ok {ci : Nat} (h : zb_sl y ci = true) : ∀ k ∈ zj_slots ci, ∀ q ∈ n_I y, q.2.1 = ci → q.2.2.1 ≠ k := by
  intro k hk q hq e e2
  have h1 := List.all_eq_true.mp h q hq
  have h2 : Nat.beq q.2.1 ci = true := by rw [e]; exact Nat.beq_refl _
  have h3 : (zj_slots ci).any (fun k => Nat.beq k q.2.2.1) = true := List.any_eq_true.mpr ⟨k, hk, by rw [e2]; exact Nat.beq_refl _⟩
  rw [h2, h3] at h1
  cases h1
theorem zb_no_ok {t ci : Nat} {fl : List zV} (h : zb_no TY NT ci = true) (hty : TY[t]? = some (.inl (ci, fl))) : (∀ k ∈ zj_slots ci, k < fl.length) ∧ ∀ k ∈ zj_refs ci, ∃ u, fl[k]? = some (.inr (.inl u)) ∧ ∀ c : Nat, NT[c]? ≠ some u := by
  have h1 := List.all_eq_true.mp h _ (List.mem_of_getElem? hty)
  have h2 : Nat.beq ci ci = true := Nat.beq_refl _
  simp only [h2, Bool.not_true, Bool.false_or, Bool.and_eq_true] at h1
  refine ⟨fun k hk => z_blt (List.all_eq_true.mp h1.1 k hk), fun k hk => ?_⟩
  have h3 := List.all_eq_true.mp h1.2 k hk
  split at h3
  · rename_i u hu
    refine ⟨u, hu, fun c hc => ?_⟩
    have h4 := List.all_eq_true.mp h3 u (List.mem_of_getElem? hc)
    rw [Nat.beq_refl] at h4
    cases h4
  · cases h3
theorem zb_ref {a t ci k b u : Nat} {fl : List zV} (hb : ∀ a t, T a = some t → ∃ ty, TY[t]? = some ty ∧ z_cell OB D DA cl T H a ty) (ha : T a = some t) (hty : TY[t]? = some (.inl (ci, fl))) (hk : fl[k]? = some (.inr (.inl u))) (h : z_sl H a (D.2 ci k) (.ref b)) : T b = some u := by
  obtain ⟨x, e, hx⟩ := zj_fld hb ha hty hk h
  cases e
  exact hx
theorem zb_keep {a t ci : Nat} {fl : List zV} (hw : zb_wf TY cl y NT RC = true) (h1 : zb_no TY NT ci = true) (h2 : zb_sl y ci = true) (hb : ∀ a t, T a = some t → ∃ ty, TY[t]? = some ty ∧ z_cell OB D DA cl T H a ty) (hA : ∀ c, c < n_N y → ∃ t, NT[c]? = some t ∧ T (A c) = some t) (hf : zn_frm D cl y A H H1)
    (ha : T a = some t) (hty : TY[t]? = some (.inl (ci, fl))) (ho : zj_obj T D DA H a ci) : zj_obj T D DA H1 a ci := by
  obtain ⟨n1, n2⟩ := zb_no_ok h1 hty
  refine zj_kept ho (fun _ h => h) (fun k hk w hw2 => zb_slk hw hb hA hf ha hty (n1 k hk) (zb_sl_ok h2 k hk) hw2) (fun k hk b hw2 hs => ?_)
  obtain ⟨u, u1, u2⟩ := n2 k hk
  exact zb_arn hA hf (zb_ref hb ha hty u1 hw2) (fun c _ hc => absurd hc (u2 c))
theorem zb_none {a ci : Nat} (h1 : ci ≠ 12) (h2 : ci ≠ 4) : zj_obj T D DA H a ci := ⟨fun e => absurd e h1, fun e => absurd e h2⟩
theorem zb_gj {b n n' : Nat} {d : ClassId} {f f' : Nat → Value} (h : H[b]? = some (arrV d n f)) (h' : H[b]? = some (arrV d n' f')) : ∀ j, j < n → f j = f' j := by
  intro j hj
  rw [h] at h'
  have h' := Option.some.inj h'
  have hs := congrArg (fun c : Cell => c.slots.size) h'
  simp only [arrV_size] at hs
  have hc := congrArg (fun c : Cell => c.slots[j]?) h'
  have hc : (arrV d n f).slots[j]? = (arrV d n' f').slots[j]? := hc
  rw [arrV_read _ _ hj, arrV_read _ _ (by omega)] at hc
  exact Option.some.inj hc
/-- what the names say of an array, and what is said by its cell -/
theorem zb_gg {F : List Int} {G : List (Int → Int)} {b a n j : Nat} {g : Int → Int} (hr : zn_rep D DA cl y A F G H) (hm : (a, 0, n, j) ∈ n_A y) (hb : b = A a) (hc : zj_c T DA H b g) : ∃ h, zn_l G j = some h ∧ ∀ i : Int, 0 ≤ i → i < n → g i = h i := by
  subst hb
  obtain ⟨f, h, f1, f2, f3⟩ := hr.2.2.2 _ hm
  obtain ⟨-, n', f', g1, g2⟩ := hc
  refine ⟨h, f2, fun i i1 i2 => ?_⟩
  have hlt : i.toNat < n := by omega
  obtain ⟨x, x1, x2⟩ := f3 i.toNat hlt
  have e := zb_gj f1 g1 i.toNat hlt
  rw [g2]
  show (match f' i.toNat with
    | .int x => x.toInt
    | _ => 0) = h i
  rw [← e, x1]
  show x.toInt = h i
  rw [x2, Int.toNat_of_nonneg i1]
theorem zb_ng {F : List Int} {G : List (Int → Int)} {a n j : Nat} (hw : zb_wf TY cl y NT RC = true) (hA : ∀ c, c < n_N y → ∃ t, NT[c]? = some t ∧ T (A c) = some t) (hr : zn_rep D DA cl y A F G H) (hm : (a, 0, n, j) ∈ n_A y) : ∃ g h, zj_c T DA H (A a) g ∧ zn_l G j = some h ∧ ∀ i : Int, 0 ≤ i → i < n → h i = g i := by
  obtain ⟨o, ho⟩ := (zb_wfI hw).2 _ hm
  have hlt : a < n_N y := by
    unfold zb_ar at ho
    split at ho
    · rename_i t ht
      rw [← (zb_wf1 hw).1]; exact (List.getElem?_eq_some_iff.mp ht).1
    · cases ho
  obtain ⟨t, t1, t2⟩ := hA a hlt
  obtain ⟨f, h, f1, f2, f3⟩ := hr.2.2.2 _ hm
  have hc : zj_c T DA H (A a) (zj_g f) := ⟨by rw [t2]; rfl, n, f, f1, rfl⟩
  obtain ⟨h2, e1, e2⟩ := zb_gg hr hm rfl hc
  exact ⟨zj_g f, h2, hc, e1, fun i i1 i2 => (e2 i i1 i2).symm⟩
theorem zb_qk (hJ : z_J OB D DA TY T H) (hs : ∀ a t ci fl, T a = some t → TY[t]? = some (.inl (ci, fl)) → ∀ k ∈ zj_refs ci, ∀ w, z_sl H a (D.2 ci k) w → z_sl H1 a (D.2 ci k) w) : zj_q D TY T H1 := by
  have bk : ∀ a t ci fl, T a = some t → TY[t]? = some (.inl (ci, fl)) → ∀ k ∈ zj_refs ci, ∀ b : Nat, z_sl H1 a (D.2 ci k) (.ref b) → z_sl H a (D.2 ci k) (.ref b) := by
    intro a t ci fl h1 h2 k hk b h3
    obtain ⟨b0, h0⟩ := zj_has (hJ.1 a t ci fl h1 h2) hk
    have := zj_fun (hs a t ci fl h1 h2 k hk _ h0) h3
    cases this
    exact h0
  intro a a' t t' ci fl fl' h1 h2 h3 h4 k hk b h5 h6
  exact hJ.2.1 a a' t t' ci fl fl' h1 h2 h3 h4 k hk b (bk a t ci fl h1 h2 k hk b h5) (bk a' t' ci fl' h3 h4 k hk b h6)
theorem zb_q (hr : zb_rl TY y = true) (hJ : z_J OB D DA TY T H) (hw : zb_wf TY cl y NT RC = true) (hb : ∀ a t, T a = some t → ∃ ty, TY[t]? = some ty ∧ z_cell OB D DA cl T H a ty) (hA : ∀ c, c < n_N y → ∃ t, NT[c]? = some t ∧ T (A c) = some t) (hf : zn_frm D cl y A H H1) : zj_q D TY T H1 := by
  unfold zb_rl at hr
  rw [Bool.and_eq_true] at hr
  refine zb_qk hJ (fun a t ci fl h1 h2 k hk w h3 => zb_slk hw hb hA hf h1 h2 ?_ (fun q hq e e2 => ?_) h3)
  · have h4 := List.all_eq_true.mp hr.1 _ (List.mem_of_getElem? h2)
    exact z_blt (List.all_eq_true.mp h4 k hk)
  · have h4 := List.all_eq_true.mp hr.2 q hq
    have h5 : (zj_refs q.2.1).any (fun k => Nat.beq k q.2.2.1) = true := List.any_eq_true.mpr ⟨k, by rw [e]; exact hk, by rw [e2]; exact Nat.beq_refl _⟩
    rw [h5] at h4
    cases h4
/-- an array that is no named one -/
theorem zb_ntk {a t ci k b tk c0 : Nat} {fl : List zV} (hw : zb_wf TY cl y NT RC = true) (hb : ∀ a t, T a = some t → ∃ ty, TY[t]? = some ty ∧ z_cell OB D DA cl T H a ty) (hA : ∀ c, c < n_N y → ∃ t, NT[c]? = some t ∧ T (A c) = some t) (hf : zn_frm D cl y A H H1)
    (ha : T a = some t) (hty : TY[t]? = some (.inl (ci, fl))) (h : zb_nt NT fl[k]? tk = true) (hk : NT[c0]? = some tk) (hs : z_sl H a (D.2 ci k) (.ref b)) (hne : b ≠ A c0) : H1[b]? = H[b]? := by
  unfold zb_nt at h
  split at h
  · rename_i u1 hu1
    refine zb_arn hA hf (zb_ref hb ha hty hu1 hs) (fun c2 hc2 hn2 e2 => ?_)
    have h8 := List.all_eq_true.mp h u1 (List.mem_of_getElem? hn2)
    rw [Nat.beq_refl] at h8
    have h8 : u1 = tk := z_beq (by simpa using h8)
    subst h8
    have := zb_nd_ok (zb_wf1 hw).2.2.2.2 hn2 hk
    subst this
    exact hne e2.symm
  · cases h
theorem zb_cl {F F' : List Int} {G G' : List (Int → Int)} {KP : List Nat} (hk : zb_ck TY y NT KP = true) (hw : zb_wf TY cl y NT RC = true) (hb : ∀ a t, T a = some t → ∃ ty, TY[t]? = some ty ∧ z_cell OB D DA cl T H a ty) (hA : ∀ c, c < n_N y → ∃ t, NT[c]? = some t ∧ T (A c) = some t)
    (hr : zn_rep D DA cl y A F G H) (hr1 : zn_rep D DA cl y A F' G' H1) (hf : zn_frm D cl y A H H1) (hG : ∀ j ∈ KP, zn_l G' j = zn_l G j) (hc : zj_cl OB D T H) : zj_cl OB D T H1 := by
  intro q hq hT
  obtain ⟨hT1, old⟩ := hc q hq hT
  refine ⟨hT1, ?_⟩
  by_cases hn : ∃ c, c < n_N y ∧ A c = OB q.2.1
  · obtain ⟨c, c1, c2⟩ := hn
    obtain ⟨t, t1, t2⟩ := hA c c1
    have et : t = q.1 := by rw [c2, hT1] at t2; exact (Option.some.inj t2).symm
    have h1 := List.all_eq_true.mp (List.all_eq_true.mp hk q hq) c (List.mem_range.mpr c1)
    rw [t1] at h1
    have h1 : (!(Nat.beq t q.1) || (match q.2.2.1 with
      | .inl f => (match TY[t]? with
        | some (.inl o) => Nat.beq o.1 f.1 && Nat.blt f.2 o.2.length
        | _ => false) && (n_I y).all (fun i => !(Nat.beq i.2.1 f.1 && Nat.beq i.2.2.1 f.2))
      | .inr j => (n_A y).any (fun a => Nat.beq a.1 c && (Nat.beq a.2.1 0 && Nat.blt j a.2.2.1) && KP.any (fun x => Nat.beq x a.2.2.2)))) = true := h1
    have e0 : Nat.beq t q.1 = true := by rw [et]; exact Nat.beq_refl _
    rw [e0] at h1
    simp only [Bool.not_true, Bool.false_or] at h1
    split at h1
    · rename_i f hf2
      rw [Bool.and_eq_true] at h1
      obtain ⟨h2, h3⟩ := h1
      split at h2
      · rename_i o ho
        rw [Bool.and_eq_true] at h2
        obtain ⟨oc, fl⟩ := o
        have eo : oc = f.1 := z_beq h2.1
        subst eo
        have es : zc_s D q.2.2.1 = D.2 f.1 f.2 := by rw [hf2]; rfl
        rw [es] at old ⊢
        rw [← c2] at old ⊢
        refine zb_slk hw hb hA hf t2 ho (z_blt h2.2) (fun i hi e1 e2 => ?_) old
        have h4 := List.all_eq_true.mp h3 i hi
        rw [e1, e2, Nat.beq_refl, Nat.beq_refl] at h4
        cases h4
      · cases h2
    · rename_i j hj
      obtain ⟨a, ha, h2⟩ := List.any_eq_true.mp h1
      simp only [Bool.and_eq_true] at h2
      obtain ⟨⟨a1, a2, a3⟩, a4⟩ := h2
      obtain ⟨x, hx, hx2⟩ := List.any_eq_true.mp a4
      have ex : x = a.2.2.2 := z_beq hx2
      subst ex
      have hjn := z_blt a3
      obtain ⟨f, g, f1, f2, f3⟩ := hr.2.2.2 a ha
      obtain ⟨f', g', f1', f2', f3'⟩ := hr1.2.2.2 a ha
      have eg : g' = g := by
        have := hG _ hx
        rw [f2, f2'] at this
        exact Option.some.inj this
      subst eg
      have ea : A a.1 = OB q.2.1 := by rw [z_beq a1]; exact c2
      rw [ea] at f1 f1'
      have es : zc_s D q.2.2.1 = j := by rw [hj]; rfl
      rw [es] at old ⊢
      obtain ⟨y1, y2, y3⟩ := f3 j hjn
      obtain ⟨z1, z2, z3⟩ := f3' j hjn
      have ez : z1 = y1 := Int32.toInt_inj.mp (by rw [z3, y3])
      have hread := arrV_read (DA a.2.1) f hjn
      have hread' := arrV_read (DA a.2.1) f' hjn
      have hold := zj_fun old ⟨_, f1, rfl, hread⟩
      refine ⟨_, f1', rfl, ?_⟩
      rw [hread', z2, ez, ← y2, hold]
  · obtain ⟨cell, x1, x2⟩ := old
    exact ⟨cell, by rw [hf.2.1 _ (fun c hc e => hn ⟨c, hc, e⟩)]; exact x1, x2⟩
theorem zb_Jn {KP : List Nat} (hck : zb_ck TY y NT KP = true) (hw : zb_wf TY cl y NT RC = true) (h : (((zb_no TY NT 12 && zb_no TY NT 4) && (zb_sl y 12 && zb_sl y 4)) && zb_rl TY y) = true) : zb_Jm cl TY y NT KP (fun _ _ => True) (fun _ _ => True) := by
  simp only [Bool.and_eq_true] at h
  intro OB D DA T H A F G hb hJ hA hr
  obtain ⟨h, hrl⟩ := h
  refine ⟨trivial, fun H1 F' G' hb1 hr1 hf hKP _ => ⟨fun a t ci fl ha hty => ?_, zb_q hrl hJ hw hb hA hf, zb_cl hck hw hb hA hr hr1 hf hKP hJ.2.2⟩⟩
  by_cases e : ci = 12
  · subst e
    exact zb_keep hw h.1.1 h.2.1 hb hA hf ha hty (hJ.1 a t _ fl ha hty)
  · by_cases e4 : ci = 4
    · subst e4
      exact zb_keep hw h.1.2 h.2.2 hb hA hf ha hty (hJ.1 a t _ fl ha hty)
    · exact zb_none e e4
theorem zb_J12 {c t t1 t2 t3 t4 jc a1 n1 j1 a2 n2 j2 a3 n3 j3 a4 n4 j4 : Nat} {KP : List Nat} (hck : zb_ck TY y NT KP = true) (hw : zb_wf TY cl y NT RC = true) (hc : NT[c]? = some t) (hz : ∃ fl, TY[t]? = some (.inl (12, fl))) (hI : (c, 12, 13, jc) ∈ n_I y)
    (hR1 : (c, 12, 20, a1) ∈ n_R y) (hR2 : (c, 12, 22, a2) ∈ n_R y) (hR3 : (c, 12, 23, a3) ∈ n_R y) (hR4 : (c, 12, 24, a4) ∈ n_R y) (hA1 : (a1, 0, n1, j1) ∈ n_A y) (hA2 : (a2, 0, n2, j2) ∈ n_A y) (hA3 : (a3, 0, n3, j3) ∈ n_A y) (hA4 : (a4, 0, n4, j4) ∈ n_A y) (hn : 200 ≤ n1 ∧ 14 ≤ n2 ∧ 14 ≤ n3 ∧ 14 ≤ n4) (ht1 : NT[a1]? = some t1) (ht2 : NT[a2]? = some t2) (ht3 : NT[a3]? = some t3) (ht4 : NT[a4]? = some t4)
    (h : ((zb_no TY NT 4 && zb_sl y 4) && ((zb_no12 TY NT t1 t2 t3 t4 && zb_rl TY y) && (n_O y).all (fun o => !(Nat.beq o.2 12) || Nat.beq o.1 c))) = true) : zb_Jm cl TY y NT KP (fun F G => ∃ cs g1 g2 g3 g4, zn_l F jc = some cs ∧ zn_l G j1 = some g1 ∧ zn_l G j2 = some g2 ∧ zn_l G j3 = some g3 ∧ zn_l G j4 = some g4 ∧ zp_J g1 cs g2 g3 g4) (fun F G => ∃ cs g1 g2 g3 g4, zn_l F jc = some cs ∧ zn_l G j1 = some g1 ∧ zn_l G j2 = some g2 ∧ zn_l G j3 = some g3 ∧ zn_l G j4 = some g4 ∧ zp_J g1 cs g2 g3 g4) := by
  simp only [Bool.and_eq_true] at h
  intro OB D DA T H A F G hb hJ hA hr
  have hlt : c < n_N y := by rw [← (zb_wf1 hw).1]; exact (List.getElem?_eq_some_iff.mp hc).1
  obtain ⟨tt, hc2, hc3⟩ := hA c hlt
  rw [hc] at hc2
  cases hc2
  obtain ⟨fl, hty⟩ := hz
  obtain ⟨⟨h4a, h4b⟩, ⟨h12, hrl⟩, hO⟩ := h
  obtain ⟨m1, m2, m3, m4⟩ := hn
  refine ⟨?_, fun H1 F' G' hb1 hr1 hf hKP hJA => ⟨fun a u ci fl2 ha hty2 => ?_, zb_q hrl hJ hw hb hA hf, zb_cl hck hw hb hA hr hr1 hf hKP hJ.2.2⟩⟩
  · obtain ⟨cs, b1, b2, b3, b4, g1, g2, g3, g4, s0, ⟨s1, c1⟩, ⟨s2, c2⟩, ⟨s3, c3⟩, ⟨s4, c4⟩, hP⟩ := (hJ.1 (A c) t 12 fl hc3 hty).1 rfl
    obtain ⟨r0, x, r1, r2, r3, r4⟩ := hr.2.1 _ hI
    have ex := z_sl_fun s0 r3
    cases ex
    have rf : ∀ {k d b : Nat}, (c, 12, k, d) ∈ n_R y → z_sl H (A c) (D.2 12 k) (.ref b) → b = A d := by
      intro k d b hm hs
      obtain ⟨r, -, -, q⟩ := hr.2.2.1 _ hm
      have := z_sl_fun hs q
      cases this
      rfl
    obtain ⟨h1, l1, e1⟩ := zb_gg hr hA1 (rf hR1 s1) c1
    obtain ⟨h2, l2, e2⟩ := zb_gg hr hA2 (rf hR2 s2) c2
    obtain ⟨h3, l3, e3⟩ := zb_gg hr hA3 (rf hR3 s3) c3
    obtain ⟨h4, l4, e4⟩ := zb_gg hr hA4 (rf hR4 s4) c4
    exact ⟨_, h1, h2, h3, h4, r4, l1, l2, l3, l4, zp_J_cong hP (fun j j1 j2 => e1 j j1 (by omega)) (fun j j1 j2 => e2 j j1 (by omega)) (fun j j1 j2 => e3 j j1 (by omega)) (fun j j1 j2 => e4 j j1 (by omega))⟩
  · by_cases e : ci = 12
    · subst e
      by_cases eA : a = A c
      · subst eA
        refine ⟨fun _ => ?_, fun e => (by cases e)⟩
        obtain ⟨cs, g1, g2, g3, g4, x0, x1, x2, x3, x4, hP⟩ := hJA
        obtain ⟨r0, x, r1, r2, r3, r4⟩ := hr1.2.1 _ hI
        rw [x0] at r4
        cases r4
        have rf : ∀ {k d : Nat}, (c, 12, k, d) ∈ n_R y → z_sl H1 (A c) (D.2 12 k) (.ref (A d)) := by
          intro k d hm
          obtain ⟨r, -, -, q⟩ := hr1.2.2.1 _ hm
          exact q
        obtain ⟨q1, h1, k1, l1, e1⟩ := zb_ng hw hA hr1 hA1
        obtain ⟨q2, h2, k2, l2, e2⟩ := zb_ng hw hA hr1 hA2
        obtain ⟨q3, h3, k3, l3, e3⟩ := zb_ng hw hA hr1 hA3
        obtain ⟨q4, h4, k4, l4, e4⟩ := zb_ng hw hA hr1 hA4
        rw [x1] at l1
        cases l1
        rw [x2] at l2
        cases l2
        rw [x3] at l3
        cases l3
        rw [x4] at l4
        cases l4
        exact ⟨x, _, _, _, _, q1, q2, q3, q4, r3, ⟨rf hR1, k1⟩, ⟨rf hR2, k2⟩, ⟨rf hR3, k3⟩, ⟨rf hR4, k4⟩, zp_J_cong hP (fun j j1 j2 => e1 j j1 (by omega)) (fun j j1 j2 => e2 j j1 (by omega)) (fun j j1 j2 => e3 j j1 (by omega)) (fun j j1 j2 => e4 j j1 (by omega))⟩
      · have hnm : H1[a]? = H[a]? := hf.2.1 a (fun c2 hc2 e2 => by
          obtain ⟨u2, v1, v2⟩ := hA c2 hc2
          rw [e2, ha] at v2
          cases v2
          have hm := (zb_wfN hw hc2 v1).1 12 fl2 hty2
          have h5 := List.all_eq_true.mp hO _ hm
          have h5 : (!(Nat.beq 12 12) || Nat.beq c2 c) = true := h5
          have h6 : c2 = c := z_beq (by simpa using h5)
          subst h6
          exact eA e2.symm)
        have h5 := List.all_eq_true.mp h12 _ (List.mem_of_getElem? hty2)
        have hbb : Nat.beq 12 12 = true := rfl
        simp only [hbb, Bool.not_true, Bool.false_or, Bool.and_eq_true] at h5
        obtain ⟨⟨p1, p2⟩, p3, p4⟩ := h5
        have own : ∀ {k d : Nat}, k ∈ zj_refs 12 → (c, 12, k, d) ∈ n_R y → ∀ b : Nat, z_sl H a (D.2 12 k) (.ref b) → b ≠ A d := by
          intro k d hk hm b hs e2
          obtain ⟨r, -, -, q⟩ := hr.2.2.1 _ hm
          have q : z_sl H (A c) (D.2 12 k) (.ref (A d)) := q
          rw [e2] at hs
          exact eA (hJ.2.1 a (A c) u t 12 fl2 fl ha hty2 hc3 hty k hk (A d) hs q)
        refine zj_kept (hJ.1 a u 12 fl2 ha hty2) (fun _ h => h) (fun k hk w hs => ?_) (fun k hk b hs _ => ?_)
        · obtain ⟨cell, x1, x2⟩ := hs
          exact ⟨cell, by rw [hnm]; exact x1, x2⟩
        · have hk2 : k ∈ [20, 22, 23, 24] := hk
          simp only [List.mem_cons, List.not_mem_nil, or_false] at hk2
          rcases hk2 with rfl | rfl | rfl | rfl
          · exact zb_ntk hw hb hA hf ha hty2 p1 ht1 hs (own hk hR1 b hs)
          · exact zb_ntk hw hb hA hf ha hty2 p2 ht2 hs (own hk hR2 b hs)
          · exact zb_ntk hw hb hA hf ha hty2 p3 ht3 hs (own hk hR3 b hs)
          · exact zb_ntk hw hb hA hf ha hty2 p4 ht4 hs (own hk hR4 b hs)
    · by_cases e4 : ci = 4
      · subst e4
        exact zb_keep hw h4a h4b hb hA hf ha hty2 (hJ.1 a u _ fl2 ha hty2)
      · exact zb_none e e4
theorem zb_J4 {c t a1 n1 j1 a2 n2 j2 tk tv : Nat} {KP : List Nat} (hck : zb_ck TY y NT KP = true) (hw : zb_wf TY cl y NT RC = true) (hc : NT[c]? = some t) (hz : ∃ fl, TY[t]? = some (.inl (4, fl)))
    (hR1 : (c, 4, 0, a1) ∈ n_R y) (hR2 : (c, 4, 1, a2) ∈ n_R y) (hA1 : (a1, 0, n1, j1) ∈ n_A y) (hA2 : (a2, 0, n2, j2) ∈ n_A y) (hn : 200 ≤ n1 ∧ 200 ≤ n2) (hk : NT[a1]? = some tk) (hv : NT[a2]? = some tv)
    (h : (((zb_no TY NT 12 && zb_sl y 12) && (zb_sl y 4 && zb_no4 TY NT tk tv)) && zb_rl TY y) = true) : zb_Jm cl TY y NT KP (fun F G => ∃ g1 g2, zn_l G j1 = some g1 ∧ zn_l G j2 = some g2 ∧ zr_J g1 g2) (fun F G => ∃ g1 g2, zn_l G j1 = some g1 ∧ zn_l G j2 = some g2 ∧ zr_J g1 g2) := by
  simp only [Bool.and_eq_true] at h
  obtain ⟨h, hrl⟩ := h
  intro OB D DA T H A F G hb hJ hA hr
  have hlt : c < n_N y := by rw [← (zb_wf1 hw).1]; exact (List.getElem?_eq_some_iff.mp hc).1
  obtain ⟨t2, hc2, hc3⟩ := hA c hlt
  rw [hc] at hc2
  cases hc2
  obtain ⟨fl, hty⟩ := hz
  obtain ⟨m1, m2⟩ := hn
  obtain ⟨b1, b2, g1, g2, ⟨s1, c1⟩, ⟨s2, c2⟩, hP⟩ := (hJ.1 (A c) t 4 fl hc3 hty).2 rfl
  have rf : ∀ {k d b : Nat}, (c, 4, k, d) ∈ n_R y → z_sl H (A c) (D.2 4 k) (.ref b) → b = A d := by
    intro k d b hm hs
    obtain ⟨r, -, -, q⟩ := hr.2.2.1 _ hm
    have := z_sl_fun hs q
    cases this
    rfl
  have eb1 := rf hR1 s1
  have eb2 := rf hR2 s2
  subst eb1; subst eb2
  refine ⟨?_, fun H1 F' G' hb1 hr1 hf hKP hJA => ⟨fun a u ci fl2 ha hty2 => ?_, zb_q hrl hJ hw hb hA hf, zb_cl hck hw hb hA hr hr1 hf hKP hJ.2.2⟩⟩
  · obtain ⟨h1, l1, e1⟩ := zb_gg hr hA1 rfl c1
    obtain ⟨h2, l2, e2⟩ := zb_gg hr hA2 rfl c2
    exact ⟨h1, h2, l1, l2, zr_J_cong hP (fun j j1 j2 => e1 j j1 (by omega)) (fun j j1 j2 => e2 j j1 (by omega))⟩
  · by_cases e : ci = 12
    · subst e
      exact zb_keep hw h.1.1 h.1.2 hb hA hf ha hty2 (hJ.1 a u _ fl2 ha hty2)
    · by_cases e4 : ci = 4
      · subst e4
        refine ⟨fun e => (by cases e), fun _ => ?_⟩
        obtain ⟨d1, d2, p1, p2, ⟨z1, w1⟩, ⟨z2, w2⟩, hP2⟩ := (hJ.1 a u 4 fl2 ha hty2).2 rfl
        have h4 := List.all_eq_true.mp h.2.2 _ (List.mem_of_getElem? hty2)
        have hbb : Nat.beq 4 4 = true := rfl
        simp only [hbb, Bool.not_true, Bool.false_or, Bool.and_eq_true] at h4
        obtain ⟨h5, h6, h7⟩ := h4
        have hl1 := z_blt h5
        have y1 := zb_slk hw hb hA hf ha hty2 (k := 0) (by omega) (zb_sl_ok h.2.1 0 (by decide)) z1
        have y2 := zb_slk hw hb hA hf ha hty2 (k := 1) hl1 (zb_sl_ok h.2.1 1 (by decide)) z2
        by_cases eA : a = A c
        · subst eA
          have ed := zj_fun z1 s1
          have ed2 := zj_fun z2 s2
          cases ed
          cases ed2
          obtain ⟨g1', g2', l1', l2', hP'⟩ := hJA
          obtain ⟨q1, i1, k1, v1, e1⟩ := zb_ng hw hA hr1 hA1
          obtain ⟨q2, i2, k2, v2, e2⟩ := zb_ng hw hA hr1 hA2
          rw [l1'] at v1
          cases v1
          rw [l2'] at v2
          cases v2
          exact ⟨_, _, q1, q2, ⟨y1, k1⟩, ⟨y2, k2⟩, zr_J_cong hP' (fun j j1 j2 => e1 j j1 (by omega)) (fun j j1 j2 => e2 j j1 (by omega))⟩
        · have n1 : d1 ≠ A a1 := fun e2 => eA (hJ.2.1 a (A c) u t 4 fl2 fl ha hty2 hc3 hty 0 (by decide) d1 z1 (by rw [e2]; exact s1))
          have n2 : d2 ≠ A a2 := fun e2 => eA (hJ.2.1 a (A c) u t 4 fl2 fl ha hty2 hc3 hty 1 (by decide) d2 z2 (by rw [e2]; exact s2))
          exact ⟨d1, d2, p1, p2, ⟨y1, zj_c_kept w1 (fun h => h) (zb_ntk hw hb hA hf ha hty2 h6 hk z1 n1)⟩, ⟨y2, zj_c_kept w2 (fun h => h) (zb_ntk hw hb hA hf ha hty2 h7 hv z2 n2)⟩, hP2⟩
      · exact zb_none e e4
end ZBJ
