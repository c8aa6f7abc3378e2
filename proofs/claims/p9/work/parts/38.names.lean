/-! Named cells: what some objects and arrays hold, by names; rules by which a method is walked over it. -/
abbrev zNV : Type := Int ⊕ Nat
/-- how many names; objects (name, class); int fields (name, class, field, place in the list); reference fields (name, class, field, name); arrays (name, kind, length, place in the list) -/
abbrev zNL : Type := Nat × List (Nat × Nat) × List (Nat × Nat × Nat × Nat) × List (Nat × Nat × Nat × Nat) × List (Nat × Nat × Nat × Nat)
abbrev n_N (y : zNL) := y.1
abbrev n_O (y : zNL) := y.2.1
abbrev n_I (y : zNL) := y.2.2.1
abbrev n_R (y : zNL) := y.2.2.2.1
abbrev n_A (y : zNL) := y.2.2.2.2
def zv_l {α : Type} : List α → Nat → Option α
  | [], _ => none
  | v :: _, 0 => some v
  | _ :: L, i + 1 => zv_l L i
def zv_s {α : Type} : List α → Nat → α → List α
  | [], _, _ => []
  | _ :: L, 0, v => v :: L
  | x :: L, i + 1, v => x :: zv_s L i v
theorem zv_ls_eq {α : Type} : ∀ {L : List α} {i : Nat} {v w : α}, zv_l L i = some w → zv_l (zv_s L i v) i = some v
  | [], _, _, _, h => by cases h
  | _ :: _, 0, _, _, _ => rfl
  | _ :: L, i + 1, v, w, h => zv_ls_eq (L := L) (i := i) (w := w) h
theorem zv_ls_ne {α : Type} : ∀ {L : List α} {i j : Nat} {v : α}, i ≠ j → zv_l (zv_s L i v) j = zv_l L j
  | [], _, _, _, _ => rfl
  | _ :: _, 0, 0, _, h => absurd rfl h
  | _ :: _, 0, _ + 1, _, _ => rfl
  | _ :: _, _ + 1, 0, _, _ => rfl
  | _ :: L, i + 1, j + 1, v, h => zv_ls_ne (L := L) (fun e => h (by rw [e]))
/-- what a name stands for: a cell; from 5000 on a long, by its bits -/
def zv_w (A : Nat → Nat) (c : Nat) (w : Value) : Prop := match Nat.blt c 5000 with
  | true => w = .ref (A c)
  | false => w = .long (Int64.ofNat (c - 5000))
theorem zv_w_r {A : Nat → Nat} {c : Nat} {w : Value} (h : zv_w A c w) (hc : c < 5000) : w = .ref (A c) := by
  unfold zv_w at h
  rw [show Nat.blt c 5000 = true from Nat.ble_eq_true_of_le hc] at h
  exact h
theorem zv_w_mk {A : Nat → Nat} {c : Nat} (hc : c < 5000) : zv_w A c (.ref (A c)) := by
  unfold zv_w
  rw [show Nat.blt c 5000 = true from Nat.ble_eq_true_of_le hc]
def zv_n1 (v : zNV) : Bool := match v with
  | .inl _ => true
  | .inr c => Nat.blt c 5000
/-- an entry of an array, by its kind -/
def zv_e (k : Nat) (w : Value) (x : Int) : Prop := match k with
  | 2 => w = .long (Int64.ofNat x.toNat)
  | _ => ∃ y : Int32, w = .int y ∧ y.toInt = x
def zv_v (A : Nat → Nat) (v : zNV) (w : Value) : Prop := match v with
  | .inl x => ∃ y : Int32, w = .int y ∧ y.toInt = x
  | .inr c => zv_w A c w
def zv_is (v : zNV) : Prop := match v with
  | .inl _ => True
  | .inr c => c < 1000
def zv_st (A : Nat → Nat) : List zNV → List Value → Prop
  | [], k => k = []
  | v :: S, k => ∃ w k', k = w :: k' ∧ zv_v A v w ∧ zv_st A S k'
def zv_lv (nL : Nat) (ls : Array Slot) (A : Nat → Nat) (L : List zNV) : Prop := ∃ lv, lv_has ls nL lv ∧ (∀ q ∈ lv, q.2.category = 1) ∧ ∀ i v, zv_l L i = some v → zv_is v → ∃ w, zv_v A v w ∧ (i, w) ∈ lv
def zv_rep (D : va_G) (DA : Nat → ClassId) (cl : List vw_C) (y : zNL) (A : Nat → Nat) (F : List zNV) (G : List (Int → Int)) (H : Heap) : Prop :=
  (∀ q ∈ n_O y, ∃ r V, cl[q.2]? = some r ∧ t_OB (A q.1) (D.1 q.2) r.2.2 (D.2 q.2) H V) ∧
  (∀ q ∈ n_I y, ∃ r w f, cl[q.2.1]? = some r ∧ q.2.2.1 < r.2.2 ∧ z_sl H (A q.1) (D.2 q.2.1 q.2.2.1) w ∧ zv_l F q.2.2.2 = some f ∧ (zv_is f → zv_v A f w)) ∧
  (∀ q ∈ n_R y, ∃ r, cl[q.2.1]? = some r ∧ q.2.2.1 < r.2.2 ∧ z_sl H (A q.1) (D.2 q.2.1 q.2.2.1) (.ref (A q.2.2.2))) ∧
  (∀ q ∈ n_A y, ∃ (f : Nat → Value) (g : Int → Int), H[A q.1]? = some (arrV (DA q.2.1) q.2.2.1 f) ∧ zv_l G q.2.2.2 = some g ∧ ∀ j : Nat, j < q.2.2.1 → zv_e q.2.1 (f j) (g j))
/-- what stays as it was: other cells, other fields -/
def zv_frm (D : va_G) (cl : List vw_C) (y : zNL) (A : Nat → Nat) (H H1 : Heap) : Prop := H1.size = H.size ∧ (∀ b : Nat, (∀ c, c < n_N y → A c ≠ b) → H1[b]? = H[b]?) ∧
  (∀ q ∈ n_O y, ∀ r k w, cl[q.2]? = some r → k < r.2.2 → (∀ i ∈ n_I y, i.1 = q.1 → i.2.2.1 ≠ k) → z_sl H (A q.1) (D.2 q.2 k) w → z_sl H1 (A q.1) (D.2 q.2 k) w)
theorem zv_frm_rf {D : va_G} {cl : List vw_C} {y : zNL} {A : Nat → Nat} {H : Heap} : zv_frm D cl y A H H := ⟨rfl, fun _ _ => rfl, fun _ _ _ _ _ _ _ _ h => h⟩
theorem zv_frm_tr {D : va_G} {cl : List vw_C} {y : zNL} {A : Nat → Nat} {H H1 H2 : Heap} (h : zv_frm D cl y A H H1) (k : zv_frm D cl y A H1 H2) : zv_frm D cl y A H H2 :=
  ⟨k.1.trans h.1, fun b hb => (k.2.1 b hb).trans (h.2.1 b hb), fun q hq r i w h1 h2 h3 h4 => k.2.2 q hq r i w h1 h2 h3 (h.2.2 q hq r i w h1 h2 h3 h4)⟩
/-- the layout is such as can be used -/
def zv_wf0 (y : zNL) : Bool :=
  (n_I y).all (fun q => (n_I y).all (fun u => (Nat.beq q.2.2.2 u.2.2.2 == (Nat.beq q.1 u.1 && Nat.beq q.2.2.1 u.2.2.1)) && (!(Nat.beq q.1 u.1) || Nat.beq q.2.1 u.2.1)) && Nat.blt q.1 (n_N y) && (n_R y).all (fun u => !(Nat.beq q.1 u.1 && Nat.beq q.2.2.1 u.2.2.1) && (!(Nat.beq q.1 u.1) || Nat.beq q.2.1 u.2.1)) && (n_O y).any (fun o => Nat.beq o.1 q.1 && Nat.beq o.2 q.2.1)) &&
  (n_R y).all (fun q => Nat.blt q.1 (n_N y) && Nat.blt q.2.2.2 (n_N y)) &&
  (n_O y).all (fun q => Nat.blt q.1 (n_N y) && (n_O y).all (fun u => !(Nat.beq q.1 u.1) || Nat.beq q.2 u.2) && (n_A y).all (fun u => !(Nat.beq q.1 u.1)) && (n_I y).all (fun u => !(Nat.beq q.1 u.1) || Nat.beq q.2 u.2.1)) &&
  (n_A y).all (fun q => Nat.blt q.1 (n_N y) && (n_A y).all (fun u => (Nat.beq q.2.2.2 u.2.2.2 == Nat.beq q.1 u.1) && (!(Nat.beq q.1 u.1) || (Nat.beq q.2.1 u.2.1 && Nat.beq q.2.2.1 u.2.2.1))) && (n_I y).all (fun u => !(Nat.beq q.1 u.1)) && (n_R y).all (fun u => !(Nat.beq q.1 u.1)))
def zv_wf (y : zNL) : Bool := Nat.ble (n_N y) 900 && zv_wf0 y
theorem zv_wf0_of {y : zNL} (h : zv_wf y = true) : n_N y ≤ 900 ∧ zv_wf0 y = true := by
  unfold zv_wf at h
  rw [Bool.and_eq_true] at h
  exact ⟨Nat.le_of_ble_eq_true h.1, h.2⟩
def zv_B (cl : List vw_C) (FT : Nat → Nat → FieldType) (KXf : (Nat → Nat) → Nat → State → Heap → Prop) (TBL : List Cond) (MT : List zM) (y : zNL) (mm : zM) (K : zK) (rm : Nat × Nat) (good : Nat → List zNV → List zNV → List zNV → List (Int → Int) → Prop) : Prop :=
  ∃ (p : Program) (l : Launch) (e : Env) (R : Room) (s : State) (m : MethodId) (args : Array Value) (below : List Frame) (meth : Method) (c : Code) (Q : State → Prop) (OB : Nat → Nat) (D : va_G) (DA : Nat → ClassId) (sz : Nat) (A : Nat → Nat) (H0 : Heap) (Ts : List Cond) (cells slots : Nat),
    (p.tables.exec = Jvm.exec ∧ c.code = mm.2.1 ∧ c.maxLocals = mm.2.2.1 ∧ z_Dy s m args Ts mm.1.cls D cl DA (z_tys DA) ∧ z_KS Ts TBL cl FT mm.1.cls MT K) ∧
    (sz ≤ H0.size ∧ z_KXp sz (KXf OB sz) ∧ KXf OB sz s H0 ∧ rm.1 ≤ R.frames ∧ rm.2 ≤ R.locals ∧ cells ≤ R.cells ∧ slots ≤ R.slots) ∧
    (zv_wf y = true ∧ (∀ a b, a < n_N y → b < n_N y → A a = A b → a = b) ∧ (∀ a, a < n_N y → sz ≤ A a) ∧ ∀ k, A (900 + k) = OB k) ∧
    ∀ pc L S F G, good pc L S F G ↔ ∀ H locs ls stk, zv_rep D DA cl y A F G H → zv_frm D cl y A H0 H → va_S (fun q => sz ≤ q) H0 H locs → zv_lv mm.2.2.1 ls A L → zv_st A S stk → W p l e R s m args below meth c H locs cells slots Q (F0 m pc ls stk)
/-- the places of a method's fields, by the layout -/
def zv_fi (K : zK) (y : zNL) (i c : Nat) : Option Nat := match (k_FL K).find? (fun q => Nat.beq q.1 i) with
  | some q => ((n_I y).find? (fun u => Nat.beq u.1 c && Nat.beq u.2.1 q.2.1 && Nat.beq u.2.2.1 q.2.2)).map (fun u => u.2.2.2)
  | none => none
def zv_fr (K : zK) (y : zNL) (i c : Nat) : Option Nat := match (k_FL K).find? (fun q => Nat.beq q.1 i) with
  | some q => ((n_R y).find? (fun u => Nat.beq u.1 c && Nat.beq u.2.1 q.2.1 && Nat.beq u.2.2.1 q.2.2)).map (fun u => u.2.2.2)
  | none => none
def zv_ar (y : zNL) (c : Nat) : Option (Nat × Nat × Nat) := ((n_A y).find? (fun u => Nat.beq u.1 c)).map (fun u => u.2)
theorem zv_fi_ok {K : zK} {y : zNL} {i c j : Nat} (h : zv_fi K y i c = some j) : ∃ ci k, (i, ci, k) ∈ k_FL K ∧ (c, ci, k, j) ∈ n_I y := by
  unfold zv_fi at h
  split at h
  · rename_i q hq
    have hm := List.mem_of_find?_eq_some hq
    have hp0 := List.find?_some hq; have hp0 : Nat.beq q.1 i = true := hp0
    have hp := z_beq hp0
    cases hu : (n_I y).find? (fun u => Nat.beq u.1 c && Nat.beq u.2.1 q.2.1 && Nat.beq u.2.2.1 q.2.2) with
    | none => rw [hu] at h; cases h
    | some u =>
      rw [hu] at h
      cases h
      have um := List.mem_of_find?_eq_some hu
      have up := List.find?_some hu
      simp only [Bool.and_eq_true] at up
      obtain ⟨q1, q2, q3⟩ := q
      obtain ⟨u1, u2, u3, u4⟩ := u
      have e1 : q1 = i := hp
      have e2 : u1 = c := z_beq up.1.1
      have e3 : u2 = q2 := z_beq up.1.2
      have e4 : u3 = q3 := z_beq up.2
      subst e1; subst e2; subst e3; subst e4
      exact ⟨_, _, hm, um⟩
  · cases h
theorem zv_fr_ok {K : zK} {y : zNL} {i c j : Nat} (h : zv_fr K y i c = some j) : ∃ ci k, (i, ci, k) ∈ k_FL K ∧ (c, ci, k, j) ∈ n_R y := by
  unfold zv_fr at h
  split at h
  · rename_i q hq
    have hm := List.mem_of_find?_eq_some hq
    have hp0 := List.find?_some hq; have hp0 : Nat.beq q.1 i = true := hp0
    have hp := z_beq hp0
    cases hu : (n_R y).find? (fun u => Nat.beq u.1 c && Nat.beq u.2.1 q.2.1 && Nat.beq u.2.2.1 q.2.2) with
    | none => rw [hu] at h; cases h
    | some u =>
      rw [hu] at h
      cases h
      have um := List.mem_of_find?_eq_some hu
      have up := List.find?_some hu
      simp only [Bool.and_eq_true] at up
      obtain ⟨q1, q2, q3⟩ := q
      obtain ⟨u1, u2, u3, u4⟩ := u
      have e1 : q1 = i := hp
      have e2 : u1 = c := z_beq up.1.1
      have e3 : u2 = q2 := z_beq up.1.2
      have e4 : u3 = q3 := z_beq up.2
      subst e1; subst e2; subst e3; subst e4
      exact ⟨_, _, hm, um⟩
  · cases h
theorem zv_ar_ok {y : zNL} {c : Nat} {q : Nat × Nat × Nat} (h : zv_ar y c = some q) : (c, q) ∈ n_A y := by
  unfold zv_ar at h
  cases hu : (n_A y).find? (fun u => Nat.beq u.1 c) with
  | none => rw [hu] at h; cases h
  | some u =>
    rw [hu] at h
    cases h
    have um := List.mem_of_find?_eq_some hu
    have up0 := List.find?_some hu; have up0 : Nat.beq u.1 c = true := up0
    have up := z_beq up0
    obtain ⟨u1, u2⟩ := u
    have e1 : u1 = c := up
    subst e1
    exact um
section ZVPURE
variable {cl : List vw_C} {FT : Nat → Nat → FieldType} {KXf : (Nat → Nat) → Nat → State → Heap → Prop} {TBL : List Cond} {MT : List zM} {y : zNL} {mm : zM} {K : zK} {rm : Nat × Nat} {good : Nat → List zNV → List zNV → List zNV → List (Int → Int) → Prop}
variable {pc : Nat} {L S : List zNV} {F : List zNV} {G : List (Int → Int)}
theorem zv_v1 {A : Nat → Nat} {v : zNV} {w : Value} (hn : zv_n1 v = true) (h : zv_v A v w) : w.category = 1 := by
  match v, hn, h with
  | .inl x, _, ⟨y, e, _⟩ => rw [e]; rfl
  | .inr c, hn, e =>
    have e : w = .ref (A c) := zv_w_r e (z_blt hn)
    rw [e]; rfl
/-- a constant -/
def zv_cst (K : zK) (ins : Instr) (len : Nat) : Option Int := match ins with
  | .iconst n => cond (Nat.beq len 1 && z_noov n n) (some n) none
  | .bipush n => cond (Nat.beq len 2 && (z_ile (-128) n && z_ile n 127)) (some n) none
  | .sipush n => cond (Nat.beq len 3 && (z_ile (-32768) n && z_ile n 32767)) (some n) none
  | .ldc i => cond (Nat.beq len 2) (((k_CT K).find? (fun q => Nat.beq q.1 i)).map (fun q => q.2.toInt)) none
  | .ldc_w i => cond (Nat.beq len 3) (((k_CT K).find? (fun q => Nat.beq q.1 i)).map (fun q => q.2.toInt)) none
  | _ => none
theorem zv_con (hB : zv_B cl FT KXf TBL MT y mm K rm good) {ins : Instr} {len : Nat} {n : Int} (hd : decode mm.2.1 pc = .ok (ins, len)) (hc : zv_cst K ins len = some n) (k : good (pc + len) L (.inl n :: S) F G) : good pc L S F G := by
  obtain ⟨p, l, e, R, s, m, args, below, meth, c, Q, OB, D, DA, sz, A, H0, Ts, cells, slots, ⟨hx, hb, hml, hD, hKS⟩, -, -, hg⟩ := hB
  refine (hg _ _ _ _ _).mpr fun H locs ls stk h1 h2 h3 h4 h5 => ?_
  have kk := fun (v : Int32) (hv : v.toInt = n) => (hg _ _ _ _ _).mp k H locs ls (.int v :: stk) h1 h2 h3 h4 ⟨_, _, rfl, ⟨v, rfl, hv⟩, h5⟩
  unfold zv_cst at hc
  split at hc
  · obtain ⟨c1, rfl⟩ := z_cond hc
    rw [Bool.and_eq_true] at c1
    rw [z_beq c1.1] at hd kk
    obtain ⟨q1, q2⟩ := z_noov_ok c1.2
    exact lv_iconst hx hb hd rfl (kk _ (Int32.toInt_ofInt_of_le (by omega) (by omega)))
  · rename_i n2
    obtain ⟨c1, rfl⟩ := z_cond hc
    rw [Bool.and_eq_true, Bool.and_eq_true] at c1
    rw [z_beq c1.1] at hd kk
    have q1 := z_ile_ok c1.2.1
    have q2 := z_ile_ok c1.2.2
    exact lv_bipush hx hb hd rfl (kk ((Int8.ofInt n2).toInt32) (by rw [Int8.toInt_toInt32]; exact Int8.toInt_ofInt_of_le (by omega) (by omega)))
  · rename_i n2
    obtain ⟨c1, rfl⟩ := z_cond hc
    rw [Bool.and_eq_true, Bool.and_eq_true] at c1
    rw [z_beq c1.1] at hd kk
    have q1 := z_ile_ok c1.2.1
    have q2 := z_ile_ok c1.2.2
    exact lv_sipush hx hb hd rfl (kk ((Int16.ofInt n2).toInt32) (by rw [Int16.toInt_toInt32]; exact Int16.toInt_ofInt_of_le (by omega) (by omega)))
  · rename_i i
    cases hf : (k_CT K).find? (fun q => Nat.beq q.1 i) with
    | none => rw [hf] at hc; cases hl : Nat.beq len 2 <;> rw [hl] at hc <;> cases hc
    | some q =>
      rw [hf] at hc
      obtain ⟨c1, rfl⟩ := z_cond (b := Nat.beq len 2) (x := q.2.toInt) hc
      rw [z_beq c1] at hd kk
      have hm := hKS.2.2.2.1 q (List.mem_of_find?_eq_some hf)
      have hp0 := List.find?_some hf; have hp0 : Nat.beq q.1 i = true := hp0
      rw [z_beq hp0] at hm
      exact lv_ldc hx hb hD.2.1 (hD.1 _ hm) hd (kk _ rfl)
  · rename_i i
    cases hf : (k_CT K).find? (fun q => Nat.beq q.1 i) with
    | none => rw [hf] at hc; cases hl : Nat.beq len 3 <;> rw [hl] at hc <;> cases hc
    | some q =>
      rw [hf] at hc
      obtain ⟨c1, rfl⟩ := z_cond (b := Nat.beq len 3) (x := q.2.toInt) hc
      rw [z_beq c1] at hd kk
      have hm := hKS.2.2.2.1 q (List.mem_of_find?_eq_some hf)
      have hp0 := List.find?_some hf; have hp0 : Nat.beq q.1 i = true := hp0
      rw [z_beq hp0] at hm
      exact lv_ldcw hx hb hD.2.1 (hD.1 _ hm) hd (kk _ rfl)
  · cases hc
/-- loads -/
def zv_ldi (ins : Instr) (len : Nat) : Option Nat := match ins with
  | .iload i => cond (Nat.beq len 2) (some i) none
  | .iload_n i => cond (Nat.beq len 1) (some i.val) none
  | _ => none
def zv_lda (ins : Instr) (len : Nat) : Option Nat := match ins with
  | .aload i => cond (Nat.beq len 2) (some i) none
  | .aload_n i => cond (Nat.beq len 1) (some i.val) none
  | _ => none
theorem zv_ild (hB : zv_B cl FT KXf TBL MT y mm K rm good) {ins : Instr} {len i : Nat} {v : Int} (hd : decode mm.2.1 pc = .ok (ins, len)) (hc : zv_ldi ins len = some i) (hl : zv_l L i = some (.inl v)) (k : good (pc + len) L (.inl v :: S) F G) : good pc L S F G := by
  obtain ⟨p, l, e, R, s, m, args, below, meth, c, Q, OB, D, DA, sz, A, H0, Ts, cells, slots, ⟨hx, hb, hml, hD, hKS⟩, -, -, hg⟩ := hB
  refine (hg _ _ _ _ _).mpr fun H locs ls stk h1 h2 h3 h4 h5 => ?_
  obtain ⟨lv, a1, a2, a3⟩ := h4
  obtain ⟨w, ⟨x, rfl, hv⟩, a4⟩ := a3 i _ hl trivial
  have kk := (hg _ _ _ _ _).mp k H locs ls (.int x :: stk) h1 h2 h3 ⟨lv, a1, a2, a3⟩ ⟨_, _, rfl, ⟨x, rfl, hv⟩, h5⟩
  unfold zv_ldi at hc
  split at hc
  · obtain ⟨c1, rfl⟩ := z_cond hc
    rw [z_beq c1] at hd kk
    exact lv_iload hx hb hd (a1.2.2 _ a4) kk
  · obtain ⟨c1, rfl⟩ := z_cond hc
    rw [z_beq c1] at hd kk
    exact lv_iload_n hx hb hd rfl (a1.2.2 _ a4) kk
  · cases hc
theorem zv_ald (hB : zv_B cl FT KXf TBL MT y mm K rm good) {ins : Instr} {len i v : Nat} (hd : decode mm.2.1 pc = .ok (ins, len)) (hc : zv_lda ins len = some i) (hl : zv_l L i = some (.inr v)) (hv : Nat.blt v 1000 = true) (k : good (pc + len) L (.inr v :: S) F G) : good pc L S F G := by
  obtain ⟨p, l, e, R, s, m, args, below, meth, c, Q, OB, D, DA, sz, A, H0, Ts, cells, slots, ⟨hx, hb, hml, hD, hKS⟩, -, -, hg⟩ := hB
  refine (hg _ _ _ _ _).mpr fun H locs ls stk h1 h2 h3 h4 h5 => ?_
  obtain ⟨lv, a1, a2, a3⟩ := h4
  obtain ⟨w, hw, a4⟩ := a3 i _ hl (z_blt hv)
  have hv5 : v < 5000 := by have := z_blt hv; omega
  have hw : w = .ref (A v) := zv_w_r hw hv5
  subst hw
  have kk := (hg _ _ _ _ _).mp k H locs ls (.ref (A v) :: stk) h1 h2 h3 ⟨lv, a1, a2, a3⟩ ⟨_, _, rfl, zv_w_mk hv5, h5⟩
  unfold zv_lda at hc
  split at hc
  · obtain ⟨c1, rfl⟩ := z_cond hc
    rw [z_beq c1] at hd kk
    exact lv_aload hx hb hd (a1.2.2 _ a4) kk
  · obtain ⟨c1, rfl⟩ := z_cond hc
    rw [z_beq c1] at hd kk
    exact lv_aload_n hx hb hd rfl (a1.2.2 _ a4) kk
  · cases hc
/-- stores -/
def zv_sti (ins : Instr) (len : Nat) : Option Nat := match ins with
  | .istore i => cond (Nat.beq len 2) (some i) none
  | .istore_n i => cond (Nat.beq len 1) (some i.val) none
  | _ => none
theorem zv_lv_set {nL i : Nat} {A : Nat → Nat} {v : zNV} {w u : zNV} {x : Value} {ls' : Array Slot} {lv : List (Nat × Value)} (hn : zv_n1 v = true) (a2 : ∀ q ∈ lv, q.2.category = 1) (a3 : ∀ i v, zv_l L i = some v → zv_is v → ∃ w, zv_v A v w ∧ (i, w) ∈ lv) (hv : zv_v A v x) (hl : zv_l L i = some u) (h : lv_has ls' nL ((i, x) :: lv.filter (fun q => !(q.1 == i) && !(q.1 + 1 == i && q.2.category == 2)))) : zv_lv nL ls' A (zv_s L i v) := by
  refine ⟨_, h, fun q hq => ?_, fun j w2 hj hw => ?_⟩
  · rcases List.mem_cons.mp hq with rfl | hq
    · exact zv_v1 hn hv
    · exact a2 q (List.mem_filter.mp hq).1
  · by_cases e : i = j
    · subst e
      rw [zv_ls_eq hl] at hj
      cases hj
      exact ⟨x, hv, List.mem_cons_self⟩
    · rw [zv_ls_ne e] at hj
      obtain ⟨w3, b1, b2⟩ := a3 j w2 hj hw
      refine ⟨w3, b1, List.mem_cons_of_mem _ (List.mem_filter.mpr ⟨b2, ?_⟩)⟩
      have hcat := a2 _ b2
      have hne : ¬ j = i := fun h => e h.symm
      simp [hne, hcat]
theorem zv_ist (hB : zv_B cl FT KXf TBL MT y mm K rm good) {ins : Instr} {len i : Nat} {v : Int} {u : zNV} (hd : decode mm.2.1 pc = .ok (ins, len)) (hc : zv_sti ins len = some i) (hn : Nat.blt i mm.2.2.1 = true) (hl : zv_l L i = some u) (k : good (pc + len) (zv_s L i (.inl v)) S F G) : good pc L (.inl v :: S) F G := by
  obtain ⟨p, l, e, R, s, m, args, below, meth, c, Q, OB, D, DA, sz, A, H0, Ts, cells, slots, ⟨hx, hb, hml, hD, hKS⟩, -, -, hg⟩ := hB
  refine (hg _ _ _ _ _).mpr fun H locs ls stk h1 h2 h3 h4 h5 => ?_
  obtain ⟨lv, a1, a2, a3⟩ := h4
  obtain ⟨w, st, rfl, ⟨x, rfl, hv⟩, h5⟩ := h5
  have kk := fun (ls' : Array Slot) (h : lv_has ls' mm.2.2.1 ((i, .int x) :: lv.filter (fun q => !(q.1 == i) && !(q.1 + 1 == i && q.2.category == 2)))) => (hg _ _ _ _ _).mp k H locs ls' st h1 h2 h3 (zv_lv_set (v := .inl v) (w := u) rfl a2 a3 ⟨x, rfl, hv⟩ hl h) h5
  unfold zv_sti at hc
  split at hc
  · obtain ⟨c1, rfl⟩ := z_cond hc
    rw [z_beq c1] at hd kk
    exact lv_istore hx hb hd a1 (z_blt hn) rfl kk
  · obtain ⟨c1, rfl⟩ := z_cond hc
    rw [z_beq c1] at hd kk
    exact lv_istore_n hx hb hd rfl a1 (z_blt hn) rfl kk
  · cases hc
theorem zv_iinc (hB : zv_B cl FT KXf TBL MT y mm K rm good) {i : Nat} {v n : Int} (hd : decode mm.2.1 pc = .ok (.iinc i n, 3)) (hn : (Nat.blt i mm.2.2.1 && z_noov n n) = true) (hl : zv_l L i = some (.inl v)) (h1 : -2147483648 ≤ v + n) (h2 : v + n ≤ 2147483647) (k : good (pc + 3) (zv_s L i (.inl (v + n))) S F G) : good pc L S F G := by
  obtain ⟨p, l, e, R, s, m, args, below, meth, c, Q, OB, D, DA, sz, A, H0, Ts, cells, slots, ⟨hx, hb, hml, hD, hKS⟩, -, -, hg⟩ := hB
  rw [Bool.and_eq_true] at hn
  obtain ⟨q1, q2⟩ := z_noov_ok hn.2
  refine (hg _ _ _ _ _).mpr fun H locs ls stk g1 g2 g3 h4 h5 => ?_
  obtain ⟨lv, a1, a2, a3⟩ := h4
  obtain ⟨w, ⟨x, rfl, hv⟩, a4⟩ := a3 i _ hl trivial
  obtain ⟨j, hj⟩ := List.getElem?_of_mem a4
  have hx2 : (x + Int32.ofInt n).toInt = v + n := by
    rw [Int32.toInt_add, Int32.toInt_ofInt_of_le (by omega) (by omega), hv]
    exact z_bmod (by omega) (by omega)
  exact lv_iinc hx hb hd a1 hj rfl (z_blt hn.1) rfl fun ls' h => (hg _ _ _ _ _).mp k H locs ls' stk g1 g2 g3 (zv_lv_set (v := .inl (v + n)) (w := .inl v) rfl a2 a3 ⟨_, rfl, hx2⟩ hl h) h5
end ZVPURE
