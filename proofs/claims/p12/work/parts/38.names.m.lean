/-! 38.names, 39.names2, 40.names3, 41.names4, 42.names5, 43.names6, 44.fun, 45.emb, 46.emb2 -/
section
/-! Named cells: what some objects and arrays hold, by names; rules by which a method is walked over it. -/
abbrev zNV : Type := Int ⊕ Nat
/-- how many names; objects (name, class); int fields (name, class, field, place in the list); reference fields (name, class, field, name); arrays (name, kind, length, place in the list) -/
abbrev zNL : Type := Nat × List (Nat × Nat) × List (Nat × Nat × Nat × Nat) × List (Nat × Nat × Nat × Nat) × List (Nat × Nat × Nat × Nat)
abbrev n_N (y : zNL) := y.1
abbrev n_O (y : zNL) := y.2.1
abbrev n_I (y : zNL) := y.2.2.1
abbrev n_R (y : zNL) := y.2.2.2.1
abbrev n_A (y : zNL) := y.2.2.2.2
def zv_l {α : Type} : List α → Nat → Option α
  | [], _ => none
  | v :: _, 0 => some v
  | _ :: L, i + 1 => zv_l L i
def zv_s {α : Type} : List α → Nat → α → List α
  | [], _, _ => []
  | _ :: L, 0, v => v :: L
  | x :: L, i + 1, v => x :: zv_s L i v
theorem zv_ls_eq {α : Type} : ∀ {L : List α} {i : Nat} {v w : α}, zv_l L i = some w → zv_l (zv_s L i v) i = some v
  | [], _, _, _, h => by cases h
  | _ :: _, 0, _, _, _ => rfl
  | _ :: L, i + 1, v, w, h => zv_ls_eq (L := L) (i := i) (w := w) h
theorem zv_ls_ne {α : Type} : ∀ {L : List α} {i j : Nat} {v : α}, i ≠ j → zv_l (zv_s L i v) j = zv_l L j
  | [], _, _, _, _ => rfl
  | _ :: _, 0, 0, _, h => absurd rfl h
  | _ :: _, 0, _ + 1, _, _ => rfl
  | _ :: _, _ + 1, 0, _, _ => rfl
  | _ :: L, i + 1, j + 1, v, h => zv_ls_ne (L := L) (fun e => h (by rw [e]))
/-- what a name stands for: a cell; from 5000 on a long, by its bits -/
def zv_w (A : Nat → Nat) (c : Nat) (w : Value) : Prop := match Nat.blt c 5000 with
  | true => w = .ref (A c)
  | false => w = .long (Int64.ofNat (c - 5000))
theorem zv_w_r {A : Nat → Nat} {c : Nat} {w : Value} (h : zv_w A c w) (hc : c < 5000) : w = .ref (A c) := by
  unfold zv_w at h
  rw [show Nat.blt c 5000 = true from Nat.ble_eq_true_of_le hc] at h
  exact h
theorem zv_w_mk {A : Nat → Nat} {c : Nat} (hc : c < 5000) : zv_w A c (.ref (A c)) := by
  unfold zv_w
  rw [show Nat.blt c 5000 = true from Nat.ble_eq_true_of_le hc]
def zv_n1 (v : zNV) : Bool := match v with
  | .inl _ => true
  | .inr c => Nat.blt c 5000
/-- an entry of an array, by its kind -/
def zv_e (k : Nat) (w : Value) (x : Int) : Prop := match k with
  | 2 => w = .long (Int64.ofNat x.toNat)
  | _ => ∃ y : Int32, w = .int y ∧ y.toInt = x
def zv_v (A : Nat → Nat) (v : zNV) (w : Value) : Prop := match v with
  | .inl x => ∃ y : Int32, w = .int y ∧ y.toInt = x
  | .inr c => zv_w A c w
def zv_is (v : zNV) : Prop := match v with
  | .inl _ => True
  | .inr c => c < 1000
def zv_st (A : Nat → Nat) : List zNV → List Value → Prop
  | [], k => k = []
  | v :: S, k => ∃ w k', k = w :: k' ∧ zv_v A v w ∧ zv_st A S k'
def zv_lv (nL : Nat) (ls : Array Slot) (A : Nat → Nat) (L : List zNV) : Prop := ∃ lv, lv_has ls nL lv ∧ (∀ q ∈ lv, q.2.category = 1) ∧ ∀ i v, zv_l L i = some v → zv_is v → ∃ w, zv_v A v w ∧ (i, w) ∈ lv
def zv_rep (D : va_G) (DA : Nat → ClassId) (cl : List vw_C) (y : zNL) (A : Nat → Nat) (F : List zNV) (G : List (Int → Int)) (H : Heap) : Prop :=
  (∀ q ∈ n_O y, ∃ r V, cl[q.2]? = some r ∧ t_OB (A q.1) (D.1 q.2) r.2.2 (D.2 q.2) H V) ∧
  (∀ q ∈ n_I y, ∃ r w f, cl[q.2.1]? = some r ∧ q.2.2.1 < r.2.2 ∧ z_sl H (A q.1) (D.2 q.2.1 q.2.2.1) w ∧ zv_l F q.2.2.2 = some f ∧ (zv_is f → zv_v A f w)) ∧
  (∀ q ∈ n_R y, ∃ r, cl[q.2.1]? = some r ∧ q.2.2.1 < r.2.2 ∧ z_sl H (A q.1) (D.2 q.2.1 q.2.2.1) (.ref (A q.2.2.2))) ∧
  (∀ q ∈ n_A y, ∃ (f : Nat → Value) (g : Int → Int), H[A q.1]? = some (arrV (DA q.2.1) q.2.2.1 f) ∧ zv_l G q.2.2.2 = some g ∧ ∀ j : Nat, j < q.2.2.1 → zv_e q.2.1 (f j) (g j))
/-- what stays as it was: other cells, other fields -/
def zv_frm (D : va_G) (cl : List vw_C) (y : zNL) (A : Nat → Nat) (H H1 : Heap) : Prop := H1.size = H.size ∧ (∀ b : Nat, (∀ c, c < n_N y → A c ≠ b) → H1[b]? = H[b]?) ∧
  (∀ q ∈ n_O y, ∀ r k w, cl[q.2]? = some r → k < r.2.2 → (∀ i ∈ n_I y, i.1 = q.1 → i.2.2.1 ≠ k) → z_sl H (A q.1) (D.2 q.2 k) w → z_sl H1 (A q.1) (D.2 q.2 k) w)
theorem zv_frm_rf {D : va_G} {cl : List vw_C} {y : zNL} {A : Nat → Nat} {H : Heap} : zv_frm D cl y A H H := ⟨rfl, fun _ _ => rfl, fun _ _ _ _ _ _ _ _ h => h⟩
theorem zv_frm_tr {D : va_G} {cl : List vw_C} {y : zNL} {A : Nat → Nat} {H H1 H2 : Heap} (h : zv_frm D cl y A H H1) (k : zv_frm D cl y A H1 H2) : zv_frm D cl y A H H2 :=
  ⟨k.1.trans h.1, fun b hb => (k.2.1 b hb).trans (h.2.1 b hb), fun q hq r i w h1 h2 h3 h4 => k.2.2 q hq r i w h1 h2 h3 (h.2.2 q hq r i w h1 h2 h3 h4)⟩
/-- the layout is such as can be used -/
def zv_wf0 (y : zNL) : Bool :=
  (n_I y).all (fun q => (n_I y).all (fun u => (Nat.beq q.2.2.2 u.2.2.2 == (Nat.beq q.1 u.1 && Nat.beq q.2.2.1 u.2.2.1)) && (!(Nat.beq q.1 u.1) || Nat.beq q.2.1 u.2.1)) && Nat.blt q.1 (n_N y) && (n_R y).all (fun u => !(Nat.beq q.1 u.1 && Nat.beq q.2.2.1 u.2.2.1) && (!(Nat.beq q.1 u.1) || Nat.beq q.2.1 u.2.1)) && (n_O y).any (fun o => Nat.beq o.1 q.1 && Nat.beq o.2 q.2.1)) &&
  (n_R y).all (fun q => Nat.blt q.1 (n_N y) && Nat.blt q.2.2.2 (n_N y)) &&
  (n_O y).all (fun q => Nat.blt q.1 (n_N y) && (n_O y).all (fun u => !(Nat.beq q.1 u.1) || Nat.beq q.2 u.2) && (n_A y).all (fun u => !(Nat.beq q.1 u.1)) && (n_I y).all (fun u => !(Nat.beq q.1 u.1) || Nat.beq q.2 u.2.1)) &&
  (n_A y).all (fun q => Nat.blt q.1 (n_N y) && (n_A y).all (fun u => (Nat.beq q.2.2.2 u.2.2.2 == Nat.beq q.1 u.1) && (!(Nat.beq q.1 u.1) || (Nat.beq q.2.1 u.2.1 && Nat.beq q.2.2.1 u.2.2.1))) && (n_I y).all (fun u => !(Nat.beq q.1 u.1)) && (n_R y).all (fun u => !(Nat.beq q.1 u.1)))
def zv_wf (y : zNL) : Bool := Nat.ble (n_N y) 900 && zv_wf0 y
theorem zv_wf0_of {y : zNL} (h : zv_wf y = true) : n_N y ≤ 900 ∧ zv_wf0 y = true := by
  unfold zv_wf at h
  rw [Bool.and_eq_true] at h
  exact ⟨Nat.le_of_ble_eq_true h.1, h.2⟩
def zv_B (cl : List vw_C) (FT : Nat → Nat → FieldType) (KXf : (Nat → Nat) → Nat → State → Heap → Prop) (TBL : List Cond) (MT : List zM) (y : zNL) (mm : zM) (K : zK) (rm : Nat × Nat) (good : Nat → List zNV → List zNV → List zNV → List (Int → Int) → Prop) : Prop :=
  ∃ (p : Program) (l : Launch) (e : Env) (R : Room) (s : State) (m : MethodId) (args : Array Value) (below : List Frame) (meth : Method) (c : Code) (Q : State → Prop) (OB : Nat → Nat) (D : va_G) (DA : Nat → ClassId) (sz : Nat) (A : Nat → Nat) (H0 : Heap) (Ts : List Cond) (cells slots : Nat),
    (p.tables.exec = Jvm.exec ∧ c.code = mm.2.1 ∧ c.maxLocals = mm.2.2.1 ∧ z_Dy s m args Ts mm.1.cls D cl DA (z_tys DA) ∧ z_KS Ts TBL cl FT mm.1.cls MT K) ∧
    (sz ≤ H0.size ∧ z_KXp sz (KXf OB sz) ∧ KXf OB sz s H0 ∧ rm.1 ≤ R.frames ∧ rm.2 ≤ R.locals ∧ cells ≤ R.cells ∧ slots ≤ R.slots) ∧
    (zv_wf y = true ∧ (∀ a b, a < n_N y → b < n_N y → A a = A b → a = b) ∧ (∀ a, a < n_N y → sz ≤ A a) ∧ ∀ k, A (900 + k) = OB k) ∧
    ∀ pc L S F G, good pc L S F G ↔ ∀ H locs ls stk, zv_rep D DA cl y A F G H → zv_frm D cl y A H0 H → va_S (fun q => sz ≤ q) H0 H locs → zv_lv mm.2.2.1 ls A L → zv_st A S stk → W p l e R s m args below meth c H locs cells slots Q (F0 m pc ls stk)
/-- the places of a method's fields, by the layout -/
def zv_fi (K : zK) (y : zNL) (i c : Nat) : Option Nat := match (k_FL K).find? (fun q => Nat.beq q.1 i) with
  | some q => ((n_I y).find? (fun u => Nat.beq u.1 c && Nat.beq u.2.1 q.2.1 && Nat.beq u.2.2.1 q.2.2)).map (fun u => u.2.2.2)
  | none => none
def zv_fr (K : zK) (y : zNL) (i c : Nat) : Option Nat := match (k_FL K).find? (fun q => Nat.beq q.1 i) with
  | some q => ((n_R y).find? (fun u => Nat.beq u.1 c && Nat.beq u.2.1 q.2.1 && Nat.beq u.2.2.1 q.2.2)).map (fun u => u.2.2.2)
  | none => none
def zv_ar (y : zNL) (c : Nat) : Option (Nat × Nat × Nat) := ((n_A y).find? (fun u => Nat.beq u.1 c)).map (fun u => u.2)
theorem zv_fi_ok {K : zK} {y : zNL} {i c j : Nat} (h : zv_fi K y i c = some j) : ∃ ci k, (i, ci, k) ∈ k_FL K ∧ (c, ci, k, j) ∈ n_I y := by
  unfold zv_fi at h
  split at h
  · rename_i q hq
    have hm := List.mem_of_find?_eq_some hq
    have hp0 := List.find?_some hq; have hp0 : Nat.beq q.1 i = true := hp0
    have hp := z_beq hp0
    cases hu : (n_I y).find? (fun u => Nat.beq u.1 c && Nat.beq u.2.1 q.2.1 && Nat.beq u.2.2.1 q.2.2) with
    | none => rw [hu] at h; cases h
    | some u =>
      rw [hu] at h
      cases h
      have um := List.mem_of_find?_eq_some hu
      have up := List.find?_some hu
      simp only [Bool.and_eq_true] at up
      obtain ⟨q1, q2, q3⟩ := q
      obtain ⟨u1, u2, u3, u4⟩ := u
      have e1 : q1 = i := hp
      have e2 : u1 = c := z_beq up.1.1
      have e3 : u2 = q2 := z_beq up.1.2
      have e4 : u3 = q3 := z_beq up.2
      subst e1; subst e2; subst e3; subst e4
      exact ⟨_, _, hm, um⟩
  · cases h
theorem zv_fr_ok {K : zK} {y : zNL} {i c j : Nat} (h : zv_fr K y i c = some j) : ∃ ci k, (i, ci, k) ∈ k_FL K ∧ (c, ci, k, j) ∈ n_R y := by
  unfold zv_fr at h
  split at h
  · rename_i q hq
    have hm := List.mem_of_find?_eq_some hq
    have hp0 := List.find?_some hq; have hp0 : Nat.beq q.1 i = true := hp0
    have hp := z_beq hp0
    cases hu : (n_R y).find? (fun u => Nat.beq u.1 c && Nat.beq u.2.1 q.2.1 && Nat.beq u.2.2.1 q.2.2) with
    | none => rw [hu] at h; cases h
    | some u =>
      rw [hu] at h
      cases h
      have um := List.mem_of_find?_eq_some hu
      have up := List.find?_some hu
      simp only [Bool.and_eq_true] at up
      obtain ⟨q1, q2, q3⟩ := q
      obtain ⟨u1, u2, u3, u4⟩ := u
      have e1 : q1 = i := hp
      have e2 : u1 = c := z_beq up.1.1
      have e3 : u2 = q2 := z_beq up.1.2
      have e4 : u3 = q3 := z_beq up.2
      subst e1; subst e2; subst e3; subst e4
      exact ⟨_, _, hm, um⟩
  · cases h
theorem zv_ar_ok {y : zNL} {c : Nat} {q : Nat × Nat × Nat} (h : zv_ar y c = some q) : (c, q) ∈ n_A y := by
  unfold zv_ar at h
  cases hu : (n_A y).find? (fun u => Nat.beq u.1 c) with
  | none => rw [hu] at h; cases h
  | some u =>
    rw [hu] at h
    cases h
    have um := List.mem_of_find?_eq_some hu
    have up0 := List.find?_some hu; have up0 : Nat.beq u.1 c = true := up0
    have up := z_beq up0
    obtain ⟨u1, u2⟩ := u
    have e1 : u1 = c := up
    subst e1
    exact um
section ZVPURE
variable {cl : List vw_C} {FT : Nat → Nat → FieldType} {KXf : (Nat → Nat) → Nat → State → Heap → Prop} {TBL : List Cond} {MT : List zM} {y : zNL} {mm : zM} {K : zK} {rm : Nat × Nat} {good : Nat → List zNV → List zNV → List zNV → List (Int → Int) → Prop}
variable {pc : Nat} {L S : List zNV} {F : List zNV} {G : List (Int → Int)}
theorem zv_v1 {A : Nat → Nat} {v : zNV} {w : Value} (hn : zv_n1 v = true) (h : zv_v A v w) : w.category = 1 := by
  match v, hn, h with
  | .inl x, _, ⟨y, e, _⟩ => rw [e]; rfl
  | .inr c, hn, e =>
    have e : w = .ref (A c) := zv_w_r e (z_blt hn)
    rw [e]; rfl
/-- a constant -/
def zv_cst (K : zK) (ins : Instr) (len : Nat) : Option Int := match ins with
  | .iconst n => cond (Nat.beq len 1 && z_noov n n) (some n) none
  | .bipush n => cond (Nat.beq len 2 && (z_ile (-128) n && z_ile n 127)) (some n) none
  | .sipush n => cond (Nat.beq len 3 && (z_ile (-32768) n && z_ile n 32767)) (some n) none
  | .ldc i => cond (Nat.beq len 2) (((k_CT K).find? (fun q => Nat.beq q.1 i)).map (fun q => q.2.toInt)) none
  | .ldc_w i => cond (Nat.beq len 3) (((k_CT K).find? (fun q => Nat.beq q.1 i)).map (fun q => q.2.toInt)) none
  | _ => none
theorem zv_con (hB : zv_B cl FT KXf TBL MT y mm K rm good) {ins : Instr} {len : Nat} {n : Int} (hd : decode mm.2.1 pc = .ok (ins, len)) (hc : zv_cst K ins len = some n) (k : good (pc + len) L (.inl n :: S) F G) : good pc L S F G := by
  obtain ⟨p, l, e, R, s, m, args, below, meth, c, Q, OB, D, DA, sz, A, H0, Ts, cells, slots, ⟨hx, hb, hml, hD, hKS⟩, -, -, hg⟩ := hB
  refine (hg _ _ _ _ _).mpr fun H locs ls stk h1 h2 h3 h4 h5 => ?_
  have kk := fun (v : Int32) (hv : v.toInt = n) => (hg _ _ _ _ _).mp k H locs ls (.int v :: stk) h1 h2 h3 h4 ⟨_, _, rfl, ⟨v, rfl, hv⟩, h5⟩
  unfold zv_cst at hc
  split at hc
  · obtain ⟨c1, rfl⟩ := z_cond hc
    rw [Bool.and_eq_true] at c1
    rw [z_beq c1.1] at hd kk
    obtain ⟨q1, q2⟩ := z_noov_ok c1.2
    exact lv_iconst hx hb hd rfl (kk _ (Int32.toInt_ofInt_of_le (by omega) (by omega)))
  · rename_i n2
    obtain ⟨c1, rfl⟩ := z_cond hc
    rw [Bool.and_eq_true, Bool.and_eq_true] at c1
    rw [z_beq c1.1] at hd kk
    have q1 := z_ile_ok c1.2.1
    have q2 := z_ile_ok c1.2.2
    exact lv_bipush hx hb hd rfl (kk ((Int8.ofInt n2).toInt32) (by rw [Int8.toInt_toInt32]; exact Int8.toInt_ofInt_of_le (by omega) (by omega)))
  · rename_i n2
    obtain ⟨c1, rfl⟩ := z_cond hc
    rw [Bool.and_eq_true, Bool.and_eq_true] at c1
    rw [z_beq c1.1] at hd kk
    have q1 := z_ile_ok c1.2.1
    have q2 := z_ile_ok c1.2.2
    exact lv_sipush hx hb hd rfl (kk ((Int16.ofInt n2).toInt32) (by rw [Int16.toInt_toInt32]; exact Int16.toInt_ofInt_of_le (by omega) (by omega)))
  · rename_i i
    cases hf : (k_CT K).find? (fun q => Nat.beq q.1 i) with
    | none => rw [hf] at hc; cases hl : Nat.beq len 2 <;> rw [hl] at hc <;> cases hc
    | some q =>
      rw [hf] at hc
      obtain ⟨c1, rfl⟩ := z_cond (b := Nat.beq len 2) (x := q.2.toInt) hc
      rw [z_beq c1] at hd kk
      have hm := hKS.2.2.2.1 q (List.mem_of_find?_eq_some hf)
      have hp0 := List.find?_some hf; have hp0 : Nat.beq q.1 i = true := hp0
      rw [z_beq hp0] at hm
      exact lv_ldc hx hb hD.2.1 (hD.1 _ hm) hd (kk _ rfl)
  · rename_i i
    cases hf : (k_CT K).find? (fun q => Nat.beq q.1 i) with
    | none => rw [hf] at hc; cases hl : Nat.beq len 3 <;> rw [hl] at hc <;> cases hc
    | some q =>
      rw [hf] at hc
      obtain ⟨c1, rfl⟩ := z_cond (b := Nat.beq len 3) (x := q.2.toInt) hc
      rw [z_beq c1] at hd kk
      have hm := hKS.2.2.2.1 q (List.mem_of_find?_eq_some hf)
      have hp0 := List.find?_some hf; have hp0 : Nat.beq q.1 i = true := hp0
      rw [z_beq hp0] at hm
      exact lv_ldcw hx hb hD.2.1 (hD.1 _ hm) hd (kk _ rfl)
  · cases hc
/-- loads -/
def zv_ldi (ins : Instr) (len : Nat) : Option Nat := match ins with
  | .iload i => cond (Nat.beq len 2) (some i) none
  | .iload_n i => cond (Nat.beq len 1) (some i.val) none
  | _ => none
def zv_lda (ins : Instr) (len : Nat) : Option Nat := match ins with
  | .aload i => cond (Nat.beq len 2) (some i) none
  | .aload_n i => cond (Nat.beq len 1) (some i.val) none
  | _ => none
theorem zv_ild (hB : zv_B cl FT KXf TBL MT y mm K rm good) {ins : Instr} {len i : Nat} {v : Int} (hd : decode mm.2.1 pc = .ok (ins, len)) (hc : zv_ldi ins len = some i) (hl : zv_l L i = some (.inl v)) (k : good (pc + len) L (.inl v :: S) F G) : good pc L S F G := by
  obtain ⟨p, l, e, R, s, m, args, below, meth, c, Q, OB, D, DA, sz, A, H0, Ts, cells, slots, ⟨hx, hb, hml, hD, hKS⟩, -, -, hg⟩ := hB
  refine (hg _ _ _ _ _).mpr fun H locs ls stk h1 h2 h3 h4 h5 => ?_
  obtain ⟨lv, a1, a2, a3⟩ := h4
  obtain ⟨w, ⟨x, rfl, hv⟩, a4⟩ := a3 i _ hl trivial
  have kk := (hg _ _ _ _ _).mp k H locs ls (.int x :: stk) h1 h2 h3 ⟨lv, a1, a2, a3⟩ ⟨_, _, rfl, ⟨x, rfl, hv⟩, h5⟩
  unfold zv_ldi at hc
  split at hc
  · obtain ⟨c1, rfl⟩ := z_cond hc
    rw [z_beq c1] at hd kk
    exact lv_iload hx hb hd (a1.2.2 _ a4) kk
  · obtain ⟨c1, rfl⟩ := z_cond hc
    rw [z_beq c1] at hd kk
    exact lv_iload_n hx hb hd rfl (a1.2.2 _ a4) kk
  · cases hc
theorem zv_ald (hB : zv_B cl FT KXf TBL MT y mm K rm good) {ins : Instr} {len i v : Nat} (hd : decode mm.2.1 pc = .ok (ins, len)) (hc : zv_lda ins len = some i) (hl : zv_l L i = some (.inr v)) (hv : Nat.blt v 1000 = true) (k : good (pc + len) L (.inr v :: S) F G) : good pc L S F G := by
  obtain ⟨p, l, e, R, s, m, args, below, meth, c, Q, OB, D, DA, sz, A, H0, Ts, cells, slots, ⟨hx, hb, hml, hD, hKS⟩, -, -, hg⟩ := hB
  refine (hg _ _ _ _ _).mpr fun H locs ls stk h1 h2 h3 h4 h5 => ?_
  obtain ⟨lv, a1, a2, a3⟩ := h4
  obtain ⟨w, hw, a4⟩ := a3 i _ hl (z_blt hv)
  have hv5 : v < 5000 := by have := z_blt hv; omega
  have hw : w = .ref (A v) := zv_w_r hw hv5
  subst hw
  have kk := (hg _ _ _ _ _).mp k H locs ls (.ref (A v) :: stk) h1 h2 h3 ⟨lv, a1, a2, a3⟩ ⟨_, _, rfl, zv_w_mk hv5, h5⟩
  unfold zv_lda at hc
  split at hc
  · obtain ⟨c1, rfl⟩ := z_cond hc
    rw [z_beq c1] at hd kk
    exact lv_aload hx hb hd (a1.2.2 _ a4) kk
  · obtain ⟨c1, rfl⟩ := z_cond hc
    rw [z_beq c1] at hd kk
    exact lv_aload_n hx hb hd rfl (a1.2.2 _ a4) kk
  · cases hc
/-- stores -/
def zv_sti (ins : Instr) (len : Nat) : Option Nat := match ins with
  | .istore i => cond (Nat.beq len 2) (some i) none
  | .istore_n i => cond (Nat.beq len 1) (some i.val) none
  | _ => none
theorem zv_lv_set {nL i : Nat} {A : Nat → Nat} {v : zNV} {w u : zNV} {x : Value} {ls' : Array Slot} {lv : List (Nat × Value)} (hn : zv_n1 v = true) (a2 : ∀ q ∈ lv, q.2.category = 1) (a3 : ∀ i v, zv_l L i = some v → zv_is v → ∃ w, zv_v A v w ∧ (i, w) ∈ lv) (hv : zv_v A v x) (hl : zv_l L i = some u) (h : lv_has ls' nL ((i, x) :: lv.filter (fun q => !(q.1 == i) && !(q.1 + 1 == i && q.2.category == 2)))) : zv_lv nL ls' A (zv_s L i v) := by
  refine ⟨_, h, fun q hq => ?_, fun j w2 hj hw => ?_⟩
  · rcases List.mem_cons.mp hq with rfl | hq
    · exact zv_v1 hn hv
    · exact a2 q (List.mem_filter.mp hq).1
  · by_cases e : i = j
    · subst e
      rw [zv_ls_eq hl] at hj
      cases hj
      exact ⟨x, hv, List.mem_cons_self⟩
    · rw [zv_ls_ne e] at hj
      obtain ⟨w3, b1, b2⟩ := a3 j w2 hj hw
      refine ⟨w3, b1, List.mem_cons_of_mem _ (List.mem_filter.mpr ⟨b2, ?_⟩)⟩
      have hcat := a2 _ b2
      have hne : ¬ j = i := fun h => e h.symm
      simp [hne, hcat]
theorem zv_ist (hB : zv_B cl FT KXf TBL MT y mm K rm good) {ins : Instr} {len i : Nat} {v : Int} {u : zNV} (hd : decode mm.2.1 pc = .ok (ins, len)) (hc : zv_sti ins len = some i) (hn : Nat.blt i mm.2.2.1 = true) (hl : zv_l L i = some u) (k : good (pc + len) (zv_s L i (.inl v)) S F G) : good pc L (.inl v :: S) F G := by
  obtain ⟨p, l, e, R, s, m, args, below, meth, c, Q, OB, D, DA, sz, A, H0, Ts, cells, slots, ⟨hx, hb, hml, hD, hKS⟩, -, -, hg⟩ := hB
  refine (hg _ _ _ _ _).mpr fun H locs ls stk h1 h2 h3 h4 h5 => ?_
  obtain ⟨lv, a1, a2, a3⟩ := h4
  obtain ⟨w, st, rfl, ⟨x, rfl, hv⟩, h5⟩ := h5
  have kk := fun (ls' : Array Slot) (h : lv_has ls' mm.2.2.1 ((i, .int x) :: lv.filter (fun q => !(q.1 == i) && !(q.1 + 1 == i && q.2.category == 2)))) => (hg _ _ _ _ _).mp k H locs ls' st h1 h2 h3 (zv_lv_set (v := .inl v) (w := u) rfl a2 a3 ⟨x, rfl, hv⟩ hl h) h5
  unfold zv_sti at hc
  split at hc
  · obtain ⟨c1, rfl⟩ := z_cond hc
    rw [z_beq c1] at hd kk
    exact lv_istore hx hb hd a1 (z_blt hn) rfl kk
  · obtain ⟨c1, rfl⟩ := z_cond hc
    rw [z_beq c1] at hd kk
    exact lv_istore_n hx hb hd rfl a1 (z_blt hn) rfl kk
  · cases hc
theorem zv_iinc (hB : zv_B cl FT KXf TBL MT y mm K rm good) {i : Nat} {v n : Int} (hd : decode mm.2.1 pc = .ok (.iinc i n, 3)) (hn : (Nat.blt i mm.2.2.1 && z_noov n n) = true) (hl : zv_l L i = some (.inl v)) (h1 : -2147483648 ≤ v + n) (h2 : v + n ≤ 2147483647) (k : good (pc + 3) (zv_s L i (.inl (v + n))) S F G) : good pc L S F G := by
  obtain ⟨p, l, e, R, s, m, args, below, meth, c, Q, OB, D, DA, sz, A, H0, Ts, cells, slots, ⟨hx, hb, hml, hD, hKS⟩, -, -, hg⟩ := hB
  rw [Bool.and_eq_true] at hn
  obtain ⟨q1, q2⟩ := z_noov_ok hn.2
  refine (hg _ _ _ _ _).mpr fun H locs ls stk g1 g2 g3 h4 h5 => ?_
  obtain ⟨lv, a1, a2, a3⟩ := h4
  obtain ⟨w, ⟨x, rfl, hv⟩, a4⟩ := a3 i _ hl trivial
  obtain ⟨j, hj⟩ := List.getElem?_of_mem a4
  have hx2 : (x + Int32.ofInt n).toInt = v + n := by
    rw [Int32.toInt_add, Int32.toInt_ofInt_of_le (by omega) (by omega), hv]
    exact z_bmod (by omega) (by omega)
  exact lv_iinc hx hb hd a1 hj rfl (z_blt hn.1) rfl fun ls' h => (hg _ _ _ _ _).mp k H locs ls' stk g1 g2 g3 (zv_lv_set (v := .inl (v + n)) (w := .inl v) rfl a2 a3 ⟨_, rfl, hx2⟩ hl h) h5
end ZVPURE
end
section
/-! More rules over named cells: sums, jumps, fields, arrays. -/
def zv_up (g : Int → Int) (j v : Int) : Int → Int := fun i => if i = j then v else g i
theorem zv_up_s {g : Int → Int} {j v : Int} : zv_up g j v j = v := if_pos rfl
theorem zv_up_n {g : Int → Int} {j v i : Int} (h : i ≠ j) : zv_up g j v i = g i := if_neg h
def zv_bop (ins : Instr) : Option (Int32 → Int32 → Int32) := match ins with
  | .iadd => some (fun x y => x + y)
  | .isub => some (fun x y => x - y)
  | .imul => some (fun x y => x * y)
  | .iand => some (fun x y => x &&& y)
  | .ior => some (fun x y => x ||| y)
  | .ixor => some (fun x y => x ^^^ y)
  | .ishl => some (fun x y => x <<< (y &&& 31))
  | .ishr => some (fun x y => x >>> (y &&& 31))
  | _ => none
def zv_bop0 (ins : Instr) : Option (Int32 → Int32 → Int32) := match ins with
  | .idiv => some (fun x y => x / y)
  | .irem => some (fun x y => x - x / y * y)
  | _ => none
theorem zv_and1 {b : Int} {x : Int32} (h : 0 ≤ b) (k : z_in (z_and z_full (b, b)) x) : 0 ≤ x.toInt ∧ x.toInt ≤ b := by
  have e : z_and z_full (b, b) = (0, b) := by
    unfold z_and z_full
    rw [if_neg (by rintro ⟨q, -⟩; cases q), if_neg (by decide), if_pos h]
  rw [e] at k
  exact k
section ZVMORE
variable {cl : List vw_C} {FT : Nat → Nat → FieldType} {KXf : (Nat → Nat) → Nat → State → Heap → Prop} {TBL : List Cond} {MT : List zM} {y : zNL} {mm : zM} {K : zK} {rm : Nat × Nat} {good : Nat → List zNV → List zNV → List zNV → List (Int → Int) → Prop}
variable {pc : Nat} {L S : List zNV} {F : List zNV} {G : List (Int → Int)}
theorem zv_rgl (hB : zv_B cl FT KXf TBL MT y mm K rm good) {i : Nat} {v : Int} (hl : zv_l L i = some (.inl v)) (k : -2147483648 ≤ v → v ≤ 2147483647 → good pc L S F G) : good pc L S F G := by
  obtain ⟨p, l, e, R, s, m, args, below, meth, c, Q, OB, D, DA, sz, A, H0, Ts, cells, slots, ⟨hx, hb, hml, hD, hKS⟩, ⟨hsz, hXp, hX, -⟩, ⟨hwf, hinj, hge, hOB⟩, hg⟩ := hB
  refine (hg _ _ _ _ _).mpr fun H locs ls stk h1 h2 h3 h4 h5 => ?_
  obtain ⟨lv, a1, a2, a3⟩ := h4
  obtain ⟨w, ⟨x, rfl, rfl⟩, a4⟩ := a3 i _ hl trivial
  exact (hg _ _ _ _ _).mp (k (z_lo x) (z_hi x)) H locs ls stk h1 h2 h3 ⟨lv, a1, a2, a3⟩ h5
theorem zv_rgs (hB : zv_B cl FT KXf TBL MT y mm K rm good) {v : Int} (k : -2147483648 ≤ v → v ≤ 2147483647 → good pc L (.inl v :: S) F G) : good pc L (.inl v :: S) F G := by
  obtain ⟨p, l, e, R, s, m, args, below, meth, c, Q, OB, D, DA, sz, A, H0, Ts, cells, slots, ⟨hx, hb, hml, hD, hKS⟩, ⟨hsz, hXp, hX, -⟩, ⟨hwf, hinj, hge, hOB⟩, hg⟩ := hB
  refine (hg _ _ _ _ _).mpr fun H locs ls stk h1 h2 h3 h4 h5 => ?_
  obtain ⟨w, st, rfl, ⟨x, rfl, rfl⟩, h6⟩ := h5
  exact (hg _ _ _ _ _).mp (k (z_lo x) (z_hi x)) H locs ls _ h1 h2 h3 h4 ⟨_, _, rfl, ⟨x, rfl, rfl⟩, h6⟩
theorem zv_bin (hB : zv_B cl FT KXf TBL MT y mm K rm good) {ins : Instr} {op : Int32 → Int32 → Int32} {a b : Int} (hd : decode mm.2.1 pc = .ok (ins, 1)) (ho : zv_bop ins = some op) (k : ∀ u v : Int32, u.toInt = a → v.toInt = b → good (pc + 1) L (.inl (op u v).toInt :: S) F G) : good pc L (.inl b :: .inl a :: S) F G := by
  obtain ⟨p, l, e, R, s, m, args, below, meth, c, Q, OB, D, DA, sz, A, H0, Ts, cells, slots, ⟨hx, hb, hml, hD, hKS⟩, ⟨hsz, hXp, hX, -⟩, ⟨hwf, hinj, hge, hOB⟩, hg⟩ := hB
  refine (hg _ _ _ _ _).mpr fun H locs ls stk h1 h2 h3 h4 h5 => ?_
  obtain ⟨w, st, rfl, ⟨v, rfl, hv⟩, w2, st2, rfl, ⟨u, rfl, hu⟩, h6⟩ := h5
  have kk := (hg _ _ _ _ _).mp (k u v hu hv) H locs ls (.int (op u v) :: st2) h1 h2 h3 h4 ⟨_, _, rfl, ⟨_, rfl, rfl⟩, h6⟩
  unfold zv_bop at ho
  split at ho
  · cases ho; exact lv_iadd hx hb hd kk
  · cases ho; exact lv_isub hx hb hd kk
  · cases ho; exact lv_imul hx hb hd kk
  · cases ho; exact lv_iand hx hb hd kk
  · cases ho; exact lv_ior hx hb hd kk
  · cases ho; exact lv_ixor hx hb hd kk
  · cases ho; exact lv_ishl hx hb hd kk
  · cases ho; exact lv_ishr hx hb hd kk
  · cases ho
theorem zv_bin0 (hB : zv_B cl FT KXf TBL MT y mm K rm good) {ins : Instr} {op : Int32 → Int32 → Int32} {a b : Int} (hd : decode mm.2.1 pc = .ok (ins, 1)) (ho : zv_bop0 ins = some op) (hb0 : b ≠ 0) (k : ∀ u v : Int32, u.toInt = a → v.toInt = b → good (pc + 1) L (.inl (op u v).toInt :: S) F G) : good pc L (.inl b :: .inl a :: S) F G := by
  obtain ⟨p, l, e, R, s, m, args, below, meth, c, Q, OB, D, DA, sz, A, H0, Ts, cells, slots, ⟨hx, hb, hml, hD, hKS⟩, ⟨hsz, hXp, hX, -⟩, ⟨hwf, hinj, hge, hOB⟩, hg⟩ := hB
  refine (hg _ _ _ _ _).mpr fun H locs ls stk h1 h2 h3 h4 h5 => ?_
  obtain ⟨w, st, rfl, ⟨v, rfl, hv⟩, w2, st2, rfl, ⟨u, rfl, hu⟩, h6⟩ := h5
  have kk := (hg _ _ _ _ _).mp (k u v hu hv) H locs ls (.int (op u v) :: st2) h1 h2 h3 h4 ⟨_, _, rfl, ⟨_, rfl, rfl⟩, h6⟩
  have hv0 : ¬ v = 0 := fun q => hb0 (by rw [← hv, q]; rfl)
  unfold zv_bop0 at ho
  split at ho
  · cases ho; exact lv_idiv hx hb hd hv0 kk
  · cases ho; exact lv_irem hx hb hd hv0 kk
  · cases ho
theorem zv_neg (hB : zv_B cl FT KXf TBL MT y mm K rm good) {a : Int} (hd : decode mm.2.1 pc = .ok (.ineg, 1)) (k : ∀ u : Int32, u.toInt = a → good (pc + 1) L (.inl (-u).toInt :: S) F G) : good pc L (.inl a :: S) F G := by
  obtain ⟨p, l, e, R, s, m, args, below, meth, c, Q, OB, D, DA, sz, A, H0, Ts, cells, slots, ⟨hx, hb, hml, hD, hKS⟩, ⟨hsz, hXp, hX, -⟩, ⟨hwf, hinj, hge, hOB⟩, hg⟩ := hB
  refine (hg _ _ _ _ _).mpr fun H locs ls stk h1 h2 h3 h4 h5 => ?_
  obtain ⟨w2, st2, rfl, ⟨u, rfl, hu⟩, h6⟩ := h5
  exact lv_ineg hx hb hd ((hg _ _ _ _ _).mp (k u hu) H locs ls (.int (-u) :: st2) h1 h2 h3 h4 ⟨_, _, rfl, ⟨_, rfl, rfl⟩, h6⟩)
/-- any value -/
theorem zv_any (hB : zv_B cl FT KXf TBL MT y mm K rm good) {ins : Instr} {op : Int32 → Int32 → Int32} {a b : Int} (hd : decode mm.2.1 pc = .ok (ins, 1)) (ho : zv_bop ins = some op) (k : ∀ v : Int, -2147483648 ≤ v → v ≤ 2147483647 → good (pc + 1) L (.inl v :: S) F G) : good pc L (.inl b :: .inl a :: S) F G :=
  zv_bin hB hd ho fun u v _ _ => k _ (z_lo _) (z_hi _)
theorem zv_any0 (hB : zv_B cl FT KXf TBL MT y mm K rm good) {ins : Instr} {op : Int32 → Int32 → Int32} {a b : Int} (hd : decode mm.2.1 pc = .ok (ins, 1)) (ho : zv_bop0 ins = some op) (hb0 : b ≠ 0) (k : ∀ v : Int, -2147483648 ≤ v → v ≤ 2147483647 → good (pc + 1) L (.inl v :: S) F G) : good pc L (.inl b :: .inl a :: S) F G :=
  zv_bin0 hB hd ho hb0 fun u v _ _ => k _ (z_lo _) (z_hi _)
theorem zv_iadd (hB : zv_B cl FT KXf TBL MT y mm K rm good) {a b : Int} (hd : decode mm.2.1 pc = .ok (.iadd, 1)) (h1 : -2147483648 ≤ a + b) (h2 : a + b ≤ 2147483647) (k : good (pc + 1) L (.inl (a + b) :: S) F G) : good pc L (.inl b :: .inl a :: S) F G :=
  zv_bin hB hd rfl fun u v hu hv => by
    have : (u + v).toInt = a + b := by rw [Int32.toInt_add, hu, hv]; exact z_bmod h1 h2
    show good _ _ (.inl (u + v).toInt :: _) _ _
    rw [this]; exact k
theorem zv_isub (hB : zv_B cl FT KXf TBL MT y mm K rm good) {a b : Int} (hd : decode mm.2.1 pc = .ok (.isub, 1)) (h1 : -2147483648 ≤ a - b) (h2 : a - b ≤ 2147483647) (k : good (pc + 1) L (.inl (a - b) :: S) F G) : good pc L (.inl b :: .inl a :: S) F G :=
  zv_bin hB hd rfl fun u v hu hv => by
    have : (u - v).toInt = a - b := by rw [Int32.toInt_sub, hu, hv]; exact z_bmod h1 h2
    show good _ _ (.inl (u - v).toInt :: _) _ _
    rw [this]; exact k
theorem zv_imul (hB : zv_B cl FT KXf TBL MT y mm K rm good) {a b : Int} (hd : decode mm.2.1 pc = .ok (.imul, 1)) (h1 : -2147483648 ≤ a * b) (h2 : a * b ≤ 2147483647) (k : good (pc + 1) L (.inl (a * b) :: S) F G) : good pc L (.inl b :: .inl a :: S) F G :=
  zv_bin hB hd rfl fun u v hu hv => by
    have : (u * v).toInt = a * b := by rw [Int32.toInt_mul, hu, hv]; exact z_bmod h1 h2
    show good _ _ (.inl (u * v).toInt :: _) _ _
    rw [this]; exact k
/-- a byte without its sign, and the like -/
theorem zv_and (hB : zv_B cl FT KXf TBL MT y mm K rm good) {a b : Int} (hd : decode mm.2.1 pc = .ok (.iand, 1)) (hb0 : 0 ≤ b) (k : ∀ v : Int, 0 ≤ v → v ≤ b → good (pc + 1) L (.inl v :: S) F G) : good pc L (.inl b :: .inl a :: S) F G :=
  zv_bin hB hd rfl fun u v hu hv => by
    have := z_and_ok (a := z_full) (b := (b, b)) (x := u) (y := v) ⟨z_lo u, z_hi u⟩ ⟨by rw [hv]; exact Int.le_refl _, by rw [hv]; exact Int.le_refl _⟩
    exact k _ (zv_and1 hb0 this).1 (zv_and1 hb0 this).2
theorem zv_dup (hB : zv_B cl FT KXf TBL MT y mm K rm good) {v : zNV} (hd : decode mm.2.1 pc = .ok (.dup, 1)) (hv1 : zv_n1 v = true) (k : good (pc + 1) L (v :: v :: S) F G) : good pc L (v :: S) F G := by
  obtain ⟨p, l, e, R, s, m, args, below, meth, c, Q, OB, D, DA, sz, A, H0, Ts, cells, slots, ⟨hx, hb, hml, hD, hKS⟩, ⟨hsz, hXp, hX, -⟩, ⟨hwf, hinj, hge, hOB⟩, hg⟩ := hB
  refine (hg _ _ _ _ _).mpr fun H locs ls stk h1 h2 h3 h4 h5 => ?_
  obtain ⟨w, st, rfl, hv, h6⟩ := h5
  exact lv_dup hx hb hd (zv_v1 hv1 hv) ((hg _ _ _ _ _).mp k H locs ls _ h1 h2 h3 h4 ⟨_, _, rfl, hv, _, _, rfl, hv, h6⟩)
theorem zv_dupx1 (hB : zv_B cl FT KXf TBL MT y mm K rm good) {v u : zNV} (hd : decode mm.2.1 pc = .ok (.dup_x1, 1)) (hv1 : zv_n1 v = true) (hu1 : zv_n1 u = true) (k : good (pc + 1) L (v :: u :: v :: S) F G) : good pc L (v :: u :: S) F G := by
  obtain ⟨p, l, e, R, s, m, args, below, meth, c, Q, OB, D, DA, sz, A, H0, Ts, cells, slots, ⟨hx, hb, hml, hD, hKS⟩, ⟨hsz, hXp, hX, -⟩, ⟨hwf, hinj, hge, hOB⟩, hg⟩ := hB
  refine (hg _ _ _ _ _).mpr fun H locs ls stk h1 h2 h3 h4 h5 => ?_
  obtain ⟨w, st, rfl, hv, w2, st2, rfl, hu, h6⟩ := h5
  exact lv_dup_x1 hx hb hd (zv_v1 hv1 hv) (zv_v1 hu1 hu) ((hg _ _ _ _ _).mp k H locs ls _ h1 h2 h3 h4 ⟨_, _, rfl, hv, _, _, rfl, hu, _, _, rfl, hv, h6⟩)
theorem zv_dup2 (hB : zv_B cl FT KXf TBL MT y mm K rm good) {v u : zNV} (hd : decode mm.2.1 pc = .ok (.dup2, 1)) (hv1 : zv_n1 v = true) (hu1 : zv_n1 u = true) (k : good (pc + 1) L (v :: u :: v :: u :: S) F G) : good pc L (v :: u :: S) F G := by
  obtain ⟨p, l, e, R, s, m, args, below, meth, c, Q, OB, D, DA, sz, A, H0, Ts, cells, slots, ⟨hx, hb, hml, hD, hKS⟩, ⟨hsz, hXp, hX, -⟩, ⟨hwf, hinj, hge, hOB⟩, hg⟩ := hB
  refine (hg _ _ _ _ _).mpr fun H locs ls stk h1 h2 h3 h4 h5 => ?_
  obtain ⟨w, st, rfl, hv, w2, st2, rfl, hu, h6⟩ := h5
  exact lv_dup2_11 hx hb hd (zv_v1 hv1 hv) (zv_v1 hu1 hu) ((hg _ _ _ _ _).mp k H locs ls _ h1 h2 h3 h4 ⟨_, _, rfl, hv, _, _, rfl, hu, _, _, rfl, hv, _, _, rfl, hu, h6⟩)
theorem zv_pop (hB : zv_B cl FT KXf TBL MT y mm K rm good) {v : zNV} (hd : decode mm.2.1 pc = .ok (.pop, 1)) (hv1 : zv_n1 v = true) (k : good (pc + 1) L S F G) : good pc L (v :: S) F G := by
  obtain ⟨p, l, e, R, s, m, args, below, meth, c, Q, OB, D, DA, sz, A, H0, Ts, cells, slots, ⟨hx, hb, hml, hD, hKS⟩, ⟨hsz, hXp, hX, -⟩, ⟨hwf, hinj, hge, hOB⟩, hg⟩ := hB
  refine (hg _ _ _ _ _).mpr fun H locs ls stk h1 h2 h3 h4 h5 => ?_
  obtain ⟨w, st, rfl, hv, h6⟩ := h5
  exact lv_pop hx hb hd (zv_v1 hv1 hv) ((hg _ _ _ _ _).mp k H locs ls _ h1 h2 h3 h4 h6)
theorem zv_goto (hB : zv_B cl FT KXf TBL MT y mm K rm good) {off : Int} {t : Nat} (hd : decode mm.2.1 pc = .ok (.goto off, 3)) (ht : z_to pc off = some t) (k : good t L S F G) : good pc L S F G := by
  obtain ⟨p, l, e, R, s, m, args, below, meth, c, Q, OB, D, DA, sz, A, H0, Ts, cells, slots, ⟨hx, hb, hml, hD, hKS⟩, ⟨hsz, hXp, hX, -⟩, ⟨hwf, hinj, hge, hOB⟩, hg⟩ := hB
  refine (hg _ _ _ _ _).mpr fun H locs ls stk h1 h2 h3 h4 h5 => ?_
  exact lv_goto hx hb hd (z_to_ok ht) ((hg _ _ _ _ _).mp k H locs ls _ h1 h2 h3 h4 h5)
theorem zv_icmp (hB : zv_B cl FT KXf TBL MT y mm K rm good) {kc : zC} {off : Int} {t : Nat} {a b : Int} (hd : decode mm.2.1 pc = .ok (.if_icmp kc off, 3)) (ht : z_to pc off = some t) (k1 : z_rel kc a b → good t L S F G) (k2 : z_rel (z_not kc) a b → good (pc + 3) L S F G) : good pc L (.inl b :: .inl a :: S) F G := by
  obtain ⟨p, l, e, R, s, m, args, below, meth, c, Q, OB, D, DA, sz, A, H0, Ts, cells, slots, ⟨hx, hb, hml, hD, hKS⟩, ⟨hsz, hXp, hX, -⟩, ⟨hwf, hinj, hge, hOB⟩, hg⟩ := hB
  refine (hg _ _ _ _ _).mpr fun H locs ls stk h1 h2 h3 h4 h5 => ?_
  obtain ⟨w, st, rfl, ⟨v, rfl, hv⟩, w2, st2, rfl, ⟨u, rfl, hu⟩, h6⟩ := h5
  exact z_icmp_row hx hb hd (z_to_ok ht) (fun h => (hg _ _ _ _ _).mp (k1 (by rw [← hu, ← hv]; exact h)) H locs ls _ h1 h2 h3 h4 h6) (fun h => (hg _ _ _ _ _).mp (k2 (by rw [← hu, ← hv]; exact h)) H locs ls _ h1 h2 h3 h4 h6)
theorem zv_icnd (hB : zv_B cl FT KXf TBL MT y mm K rm good) {kc : zC} {off : Int} {t : Nat} {a : Int} (hd : decode mm.2.1 pc = .ok (.ifCond kc off, 3)) (ht : z_to pc off = some t) (k1 : z_rel kc a 0 → good t L S F G) (k2 : z_rel (z_not kc) a 0 → good (pc + 3) L S F G) : good pc L (.inl a :: S) F G := by
  obtain ⟨p, l, e, R, s, m, args, below, meth, c, Q, OB, D, DA, sz, A, H0, Ts, cells, slots, ⟨hx, hb, hml, hD, hKS⟩, ⟨hsz, hXp, hX, -⟩, ⟨hwf, hinj, hge, hOB⟩, hg⟩ := hB
  refine (hg _ _ _ _ _).mpr fun H locs ls stk h1 h2 h3 h4 h5 => ?_
  obtain ⟨w2, st2, rfl, ⟨u, rfl, hu⟩, h6⟩ := h5
  exact z_icnd_row hx hb hd (z_to_ok ht) (fun h => (hg _ _ _ _ _).mp (k1 (by rw [← hu]; exact h)) H locs ls _ h1 h2 h3 h4 h6) (fun h => (hg _ _ _ _ _).mp (k2 (by rw [← hu]; exact h)) H locs ls _ h1 h2 h3 h4 h6)
theorem zv_ceq (hB : zv_B cl FT KXf TBL MT y mm K rm good) {off : Int} {t : Nat} {a b : Int} (hd : decode mm.2.1 pc = .ok (.if_icmp .eq off, 3)) (ht : z_to pc off = some t) (k1 : a = b → good t L S F G) (k2 : a ≠ b → good (pc + 3) L S F G) : good pc L (.inl b :: .inl a :: S) F G := zv_icmp hB hd ht k1 k2
theorem zv_zeq (hB : zv_B cl FT KXf TBL MT y mm K rm good) {off : Int} {t : Nat} {a : Int} (hd : decode mm.2.1 pc = .ok (.ifCond .eq off, 3)) (ht : z_to pc off = some t) (k1 : a = 0 → good t L S F G) (k2 : a ≠ 0 → good (pc + 3) L S F G) : good pc L (.inl a :: S) F G := zv_icnd hB hd ht k1 k2
theorem zv_cne (hB : zv_B cl FT KXf TBL MT y mm K rm good) {off : Int} {t : Nat} {a b : Int} (hd : decode mm.2.1 pc = .ok (.if_icmp .ne off, 3)) (ht : z_to pc off = some t) (k1 : a ≠ b → good t L S F G) (k2 : a = b → good (pc + 3) L S F G) : good pc L (.inl b :: .inl a :: S) F G := zv_icmp hB hd ht k1 k2
theorem zv_zne (hB : zv_B cl FT KXf TBL MT y mm K rm good) {off : Int} {t : Nat} {a : Int} (hd : decode mm.2.1 pc = .ok (.ifCond .ne off, 3)) (ht : z_to pc off = some t) (k1 : a ≠ 0 → good t L S F G) (k2 : a = 0 → good (pc + 3) L S F G) : good pc L (.inl a :: S) F G := zv_icnd hB hd ht k1 k2
theorem zv_clt (hB : zv_B cl FT KXf TBL MT y mm K rm good) {off : Int} {t : Nat} {a b : Int} (hd : decode mm.2.1 pc = .ok (.if_icmp .lt off, 3)) (ht : z_to pc off = some t) (k1 : a < b → good t L S F G) (k2 : b ≤ a → good (pc + 3) L S F G) : good pc L (.inl b :: .inl a :: S) F G := zv_icmp hB hd ht k1 k2
theorem zv_zlt (hB : zv_B cl FT KXf TBL MT y mm K rm good) {off : Int} {t : Nat} {a : Int} (hd : decode mm.2.1 pc = .ok (.ifCond .lt off, 3)) (ht : z_to pc off = some t) (k1 : a < 0 → good t L S F G) (k2 : 0 ≤ a → good (pc + 3) L S F G) : good pc L (.inl a :: S) F G := zv_icnd hB hd ht k1 k2
theorem zv_cge (hB : zv_B cl FT KXf TBL MT y mm K rm good) {off : Int} {t : Nat} {a b : Int} (hd : decode mm.2.1 pc = .ok (.if_icmp .ge off, 3)) (ht : z_to pc off = some t) (k1 : b ≤ a → good t L S F G) (k2 : a < b → good (pc + 3) L S F G) : good pc L (.inl b :: .inl a :: S) F G := zv_icmp hB hd ht k1 k2
theorem zv_zge (hB : zv_B cl FT KXf TBL MT y mm K rm good) {off : Int} {t : Nat} {a : Int} (hd : decode mm.2.1 pc = .ok (.ifCond .ge off, 3)) (ht : z_to pc off = some t) (k1 : 0 ≤ a → good t L S F G) (k2 : a < 0 → good (pc + 3) L S F G) : good pc L (.inl a :: S) F G := zv_icnd hB hd ht k1 k2
theorem zv_cgt (hB : zv_B cl FT KXf TBL MT y mm K rm good) {off : Int} {t : Nat} {a b : Int} (hd : decode mm.2.1 pc = .ok (.if_icmp .gt off, 3)) (ht : z_to pc off = some t) (k1 : b < a → good t L S F G) (k2 : a ≤ b → good (pc + 3) L S F G) : good pc L (.inl b :: .inl a :: S) F G := zv_icmp hB hd ht k1 k2
theorem zv_zgt (hB : zv_B cl FT KXf TBL MT y mm K rm good) {off : Int} {t : Nat} {a : Int} (hd : decode mm.2.1 pc = .ok (.ifCond .gt off, 3)) (ht : z_to pc off = some t) (k1 : 0 < a → good t L S F G) (k2 : a ≤ 0 → good (pc + 3) L S F G) : good pc L (.inl a :: S) F G := zv_icnd hB hd ht k1 k2
theorem zv_cle (hB : zv_B cl FT KXf TBL MT y mm K rm good) {off : Int} {t : Nat} {a b : Int} (hd : decode mm.2.1 pc = .ok (.if_icmp .le off, 3)) (ht : z_to pc off = some t) (k1 : a ≤ b → good t L S F G) (k2 : b < a → good (pc + 3) L S F G) : good pc L (.inl b :: .inl a :: S) F G := zv_icmp hB hd ht k1 k2
theorem zv_zle (hB : zv_B cl FT KXf TBL MT y mm K rm good) {off : Int} {t : Nat} {a : Int} (hd : decode mm.2.1 pc = .ok (.ifCond .le off, 3)) (ht : z_to pc off = some t) (k1 : a ≤ 0 → good t L S F G) (k2 : 0 < a → good (pc + 3) L S F G) : good pc L (.inl a :: S) F G := zv_icnd hB hd ht k1 k2
end ZVMORE
end
section
/-! Rules over named cells: switches, fields, arrays. -/
/-- a switch, case by case -/
def zv_sw (pc : Nat) (good : Nat → Prop) (a dflt : Int) : List (Int × Int) → Prop
  | [] => ∃ t, z_to pc dflt = some t ∧ good t
  | q :: r => (a = q.1 → ∃ t, z_to pc q.2 = some t ∧ good t) ∧ (a ≠ q.1 → zv_sw pc good a dflt r)
theorem zv_sw_ok {pc : Nat} {good : Nat → Prop} {a dflt : Int} : ∀ {ps : List (Int × Int)}, zv_sw pc good a dflt ps → ∃ t, z_to pc (lookupswitch.offset ps dflt a) = some t ∧ good t
  | [], h => h
  | (k, o) :: r, h => by
    rw [lookupswitch.offset_cons]
    by_cases e : k = a
    · rw [if_pos e]; exact h.1 e.symm
    · rw [if_neg e]; exact zv_sw_ok (h.2 (fun q => e q.symm))
def zv_tp : Int → List Int → List (Int × Int)
  | _, [] => []
  | lo, o :: r => (lo, o) :: zv_tp (lo + 1) r
theorem zv_tp_in : ∀ {offs : List Int} {lo d a : Int} {i : Nat} {o : Int}, offs[i]? = some o → a = lo + i → lookupswitch.offset (zv_tp lo offs) d a = o
  | [], _, _, _, _, _, h, _ => by simp at h
  | x :: r, lo, d, a, 0, o, h, e => by
    have : x = o := by simpa using h
    unfold zv_tp
    rw [lookupswitch.offset_cons, if_pos (by rw [e]; simp), this]
  | x :: r, lo, d, a, i + 1, o, h, e => by
    unfold zv_tp
    rw [lookupswitch.offset_cons, if_neg (by rw [e]; omega)]
    exact zv_tp_in (i := i) (by simpa using h) (by rw [e]; omega)
theorem zv_tp_out : ∀ {offs : List Int} {lo d a : Int}, (a < lo ∨ lo + offs.length ≤ a) → lookupswitch.offset (zv_tp lo offs) d a = d
  | [], _, _, _, _ => rfl
  | x :: r, lo, d, a, h => by
    unfold zv_tp
    have h : a < lo ∨ lo + (r.length + 1 : Nat) ≤ a := h
    rw [lookupswitch.offset_cons, if_neg (by omega)]
    exact zv_tp_out (by omega)
/-- a field that can be set: whether it is a boolean -/
def zv_pk (cl : List vw_C) (FT : Nat → Nat → FieldType) (K : zK) (i : Nat) : Option Bool := match (k_FL K).find? (fun q => Nat.beq q.1 i) with
  | some q => (match cl[q.2.1]? with
    | some r => cond (r.2.1 q.2.2).2.2.2 none (match FT q.2.1 q.2.2 with
      | .int => some false
      | .boolean => some true
      | _ => none)
    | none => none)
  | none => none
theorem zv_wfI {y : zNL} (h : zv_wf y = true) {q u : Nat × Nat × Nat × Nat} (hq : q ∈ n_I y) (hu : u ∈ n_I y) : (q.2.2.2 = u.2.2.2 ↔ q.1 = u.1 ∧ q.2.2.1 = u.2.2.1) ∧ (q.1 = u.1 → q.2.1 = u.2.1) := by
  have h := (zv_wf0_of h).2
  unfold zv_wf0 at h
  simp only [Bool.and_eq_true] at h
  have h1 := List.all_eq_true.mp h.1.1.1 q hq
  simp only [Bool.and_eq_true] at h1
  have h2 := List.all_eq_true.mp h1.1.1.1 u hu
  simp only [Bool.and_eq_true, Bool.or_eq_true, Bool.not_eq_true', beq_iff_eq] at h2
  refine ⟨⟨fun e => ?_, fun e => ?_⟩, fun e => ?_⟩
  · have : Nat.beq q.2.2.2 u.2.2.2 = true := by rw [e]; exact Nat.beq_refl _
    rw [h2.1, Bool.and_eq_true] at this
    exact ⟨z_beq this.1, z_beq this.2⟩
  · refine z_beq ?_
    rw [h2.1, e.1, e.2, Nat.beq_refl, Nat.beq_refl]; rfl
  · rcases h2.2 with h3 | h3
    · rw [e, Nat.beq_refl] at h3; cases h3
    · exact z_beq h3
theorem zv_wfIR {y : zNL} (h : zv_wf y = true) {q u : Nat × Nat × Nat × Nat} (hq : q ∈ n_I y) (hu : u ∈ n_R y) : ¬ (q.1 = u.1 ∧ q.2.2.1 = u.2.2.1) ∧ (q.1 = u.1 → q.2.1 = u.2.1) := by
  have h := (zv_wf0_of h).2
  unfold zv_wf0 at h
  simp only [Bool.and_eq_true] at h
  have h1 := List.all_eq_true.mp h.1.1.1 q hq
  simp only [Bool.and_eq_true] at h1
  have h2 := List.all_eq_true.mp h1.1.2 u hu
  simp only [Bool.and_eq_true, Bool.or_eq_true, Bool.not_eq_true'] at h2
  refine ⟨fun e => ?_, fun e => ?_⟩
  · have := h2.1
    rw [e.1, e.2, Nat.beq_refl, Nat.beq_refl] at this
    cases this
  · rcases h2.2 with h3 | h3
    · rw [e, Nat.beq_refl] at h3; cases h3
    · exact z_beq h3
theorem zv_wfIn {y : zNL} (h : zv_wf y = true) {q : Nat × Nat × Nat × Nat} (hq : q ∈ n_I y) : q.1 < n_N y ∧ ∃ o ∈ n_O y, o.1 = q.1 ∧ o.2 = q.2.1 := by
  have h := (zv_wf0_of h).2
  unfold zv_wf0 at h
  simp only [Bool.and_eq_true] at h
  have h1 := List.all_eq_true.mp h.1.1.1 q hq
  simp only [Bool.and_eq_true] at h1
  obtain ⟨o, ho, ho2⟩ := List.any_eq_true.mp h1.2
  rw [Bool.and_eq_true] at ho2
  exact ⟨z_blt h1.1.1.2, o, ho, z_beq ho2.1, z_beq ho2.2⟩
theorem zv_wfR {y : zNL} (h : zv_wf y = true) {q : Nat × Nat × Nat × Nat} (hq : q ∈ n_R y) : q.1 < n_N y ∧ q.2.2.2 < n_N y := by
  have h := (zv_wf0_of h).2
  unfold zv_wf0 at h
  simp only [Bool.and_eq_true] at h
  have h1 := List.all_eq_true.mp h.1.1.2 q hq
  rw [Bool.and_eq_true] at h1
  exact ⟨z_blt h1.1, z_blt h1.2⟩
theorem zv_wfO {y : zNL} (h : zv_wf y = true) {q : Nat × Nat} (hq : q ∈ n_O y) : q.1 < n_N y ∧ (∀ u ∈ n_A y, q.1 ≠ u.1) ∧ ∀ u ∈ n_I y, q.1 = u.1 → q.2 = u.2.1 := by
  have h := (zv_wf0_of h).2
  unfold zv_wf0 at h
  simp only [Bool.and_eq_true] at h
  have h1 := List.all_eq_true.mp h.1.2 q hq
  simp only [Bool.and_eq_true] at h1
  refine ⟨z_blt h1.1.1.1, fun u hu e => ?_, fun u hu e => ?_⟩
  · have h2 := List.all_eq_true.mp h1.1.2 u hu
    rw [e, Nat.beq_refl] at h2; cases h2
  · have h2 := List.all_eq_true.mp h1.2 u hu
    simp only [Bool.or_eq_true, Bool.not_eq_true'] at h2
    rcases h2 with h3 | h3
    · rw [e, Nat.beq_refl] at h3; cases h3
    · exact z_beq h3
theorem zv_wfA {y : zNL} (h : zv_wf y = true) {q : Nat × Nat × Nat × Nat} (hq : q ∈ n_A y) : q.1 < n_N y ∧ (∀ u ∈ n_A y, (q.2.2.2 = u.2.2.2 ↔ q.1 = u.1) ∧ (q.1 = u.1 → q.2.1 = u.2.1 ∧ q.2.2.1 = u.2.2.1)) ∧ (∀ u ∈ n_I y, q.1 ≠ u.1) ∧ ∀ u ∈ n_R y, q.1 ≠ u.1 := by
  have h := (zv_wf0_of h).2
  unfold zv_wf0 at h
  simp only [Bool.and_eq_true] at h
  have h1 := List.all_eq_true.mp h.2 q hq
  simp only [Bool.and_eq_true] at h1
  refine ⟨z_blt h1.1.1.1, fun u hu => ?_, fun u hu e => ?_, fun u hu e => ?_⟩
  · have h2 := List.all_eq_true.mp h1.1.1.2 u hu
    simp only [Bool.and_eq_true, Bool.or_eq_true, Bool.not_eq_true', beq_iff_eq] at h2
    refine ⟨⟨fun e => ?_, fun e => ?_⟩, fun e => ?_⟩
    · refine z_beq ?_
      rw [← h2.1, e]; exact Nat.beq_refl _
    · refine z_beq ?_
      rw [h2.1, e]; exact Nat.beq_refl _
    · rcases h2.2 with h3 | h3
      · rw [e, Nat.beq_refl] at h3; cases h3
      · exact ⟨z_beq h3.1, z_beq h3.2⟩
  · have h2 := List.all_eq_true.mp h1.1.2 u hu
    rw [e, Nat.beq_refl] at h2; cases h2
  · have h2 := List.all_eq_true.mp h1.2 u hu
    rw [e, Nat.beq_refl] at h2; cases h2
/-- a field of references that can be set -/
def zv_pq (cl : List vw_C) (FT : Nat → Nat → FieldType) (K : zK) (i : Nat) : Option Bool := match (k_FL K).find? (fun q => Nat.beq q.1 i) with
  | some q => (match cl[q.2.1]? with
    | some r => cond (r.2.1 q.2.2).2.2.2 none (match FT q.2.1 q.2.2 with
      | .object _ => some true
      | .array _ => some true
      | _ => none)
    | none => none)
  | none => none
theorem zv_fi_lt {K : zK} {y : zNL} {i c j : Nat} (hwf : zv_wf y = true) (h : zv_fi K y i c = some j) : c < 5000 := by
  obtain ⟨ci, k, -, h2⟩ := zv_fi_ok h
  have h3 : c < n_N y := (zv_wfIn hwf h2).1
  have := (zv_wf0_of hwf).1
  omega
theorem zv_fr_lt {K : zK} {y : zNL} {i c j : Nat} (hwf : zv_wf y = true) (h : zv_fr K y i c = some j) : c < 5000 ∧ j < 5000 := by
  obtain ⟨ci, k, -, h2⟩ := zv_fr_ok h
  obtain ⟨h3, h4⟩ := zv_wfR hwf h2
  have h3 : c < n_N y := h3
  have h4 : j < n_N y := h4
  have := (zv_wf0_of hwf).1
  exact ⟨by omega, by omega⟩
theorem zv_ar_lt {y : zNL} {c : Nat} {q : Nat × Nat × Nat} (hwf : zv_wf y = true) (h : zv_ar y c = some q) : c < 5000 := by
  have h3 : c < n_N y := (zv_wfA hwf (zv_ar_ok h)).1
  have := (zv_wf0_of hwf).1
  omega
theorem zv_any_lt {y : zNL} {c k : Nat} (hwf : zv_wf y = true) (h : (n_O y).any (fun o => Nat.beq o.1 c && Nat.beq o.2 k) = true) : c < 5000 := by
  obtain ⟨o, ho, ho2⟩ := List.any_eq_true.mp h
  rw [Bool.and_eq_true] at ho2
  have h3 := (zv_wfO hwf ho).1
  have := (zv_wf0_of hwf).1
  rw [z_beq ho2.1] at h3
  omega
section ZVHEAP
variable {cl : List vw_C} {FT : Nat → Nat → FieldType} {KXf : (Nat → Nat) → Nat → State → Heap → Prop} {TBL : List Cond} {MT : List zM} {y : zNL} {mm : zM} {K : zK} {rm : Nat × Nat} {good : Nat → List zNV → List zNV → List zNV → List (Int → Int) → Prop}
variable {pc : Nat} {L S : List zNV} {F : List zNV} {G : List (Int → Int)}
theorem zv_lsw (hB : zv_B cl FT KXf TBL MT y mm K rm good) {dflt : Int} {ps : Array (Int × Int)} {len : Nat} {a : Int} (hd : decode mm.2.1 pc = .ok (.lookupswitch dflt ps, len)) (hp : (ps.toList.zip (ps.toList.drop 1)).all (fun (a, next) => a.1 < next.1) = true) (k : zv_sw pc (fun t => good t L S F G) a dflt ps.toList) : good pc L (.inl a :: S) F G := by
  obtain ⟨p, l, e, R, s, m, args, below, meth, c, Q, OB, D, DA, sz, A, H0, Ts, cells, slots, ⟨hx, hb, hml, hD, hKS⟩, ⟨hsz, hXp, hX, -⟩, ⟨hwf, hinj, hge, hOB⟩, hg⟩ := hB
  refine (hg _ _ _ _ _).mpr fun H locs ls stk h1 h2 h3 h4 h5 => ?_
  obtain ⟨w, st, rfl, ⟨x, rfl, rfl⟩, h6⟩ := h5
  obtain ⟨t, t1, t2⟩ := zv_sw_ok k
  exact lv_lookup hx hb hd hp rfl (z_to_ok t1) ((hg _ _ _ _ _).mp t2 H locs ls _ h1 h2 h3 h4 h6)
theorem zv_tsw (hB : zv_B cl FT KXf TBL MT y mm K rm good) {dflt lo hi : Int} {offs : Array Int} {len : Nat} {a : Int} (hd : decode mm.2.1 pc = .ok (.tableswitch dflt lo hi offs, len)) (hp : (z_ile lo (hi + 1) && z_ile (hi + 1) (lo + offs.toList.length) && z_ile (lo + offs.toList.length) (hi + 1)) = true) (k : zv_sw pc (fun t => good t L S F G) a dflt (zv_tp lo offs.toList)) : good pc L (.inl a :: S) F G := by
  obtain ⟨p, l, e, R, s, m, args, below, meth, c, Q, OB, D, DA, sz, A, H0, Ts, cells, slots, ⟨hx, hb, hml, hD, hKS⟩, ⟨hsz, hXp, hX, -⟩, ⟨hwf, hinj, hge, hOB⟩, hg⟩ := hB
  refine (hg _ _ _ _ _).mpr fun H locs ls stk h1 h2 h3 h4 h5 => ?_
  obtain ⟨w, st, rfl, ⟨x, rfl, rfl⟩, h6⟩ := h5
  obtain ⟨t, t1, t2⟩ := zv_sw_ok k
  simp only [Bool.and_eq_true] at hp
  have p1 := z_ile_ok hp.1.1
  have p2 := z_ile_ok hp.1.2
  have p3 := z_ile_ok hp.2
  have kk := (hg _ _ _ _ _).mp t2 H locs ls _ h1 h2 h3 h4 h6
  by_cases ho : x.toInt < lo ∨ hi < x.toInt
  · rw [zv_tp_out (by omega)] at t1
    exact lv_tableOut hx hb hd ho (z_to_ok t1) kk
  · have hlt : (x.toInt - lo).toNat < offs.toList.length := by omega
    have hgo := List.getElem?_eq_getElem hlt
    rw [zv_tp_in hgo (by omega)] at t1
    exact lv_tableIn hx hb hd (by omega) (by omega) (off := offs.toList[(x.toInt - lo).toNat]) (by rw [← Array.getElem?_toList]; exact hgo) (z_to_ok t1) kk
theorem zv_getf (hB : zv_B cl FT KXf TBL MT y mm K rm good) {i c j : Nat} {v : Int} (hd : decode mm.2.1 pc = .ok (.getfield i, 3)) (hi : zv_fi K y i c = some j) (hl : zv_l F j = some (.inl v)) (k : -2147483648 ≤ v → v ≤ 2147483647 → good (pc + 3) L (.inl v :: S) F G) : good pc L (.inr c :: S) F G := by
  obtain ⟨p, l, e, R, s, m, args, below, meth, c, Q, OB, D, DA, sz, A, H0, Ts, cells, slots, ⟨hx, hb, hml, hD, hKS⟩, ⟨hsz, hXp, hX, -⟩, ⟨hwf, hinj, hge, hOB⟩, hg⟩ := hB
  refine (hg _ _ _ _ _).mpr fun H locs ls stk h1 h2 h3 h4 h5 => ?_
  obtain ⟨w, st, rfl, hw, h6⟩ := h5
  have hw : w = .ref (A _) := zv_w_r hw (zv_fi_lt hwf hi)
  subst hw
  obtain ⟨ci, kf, f1, f2⟩ := zv_fi_ok hi
  obtain ⟨r, wx, fx, r1, r2, r3, r4, r5⟩ := h1.2.1 _ f2
  rw [hl] at r4
  cases r4
  obtain ⟨x, rfl, rfl⟩ := r5 trivial
  exact z_getrow hx hb hKS.1 hD f1 r3 hd ((hg _ _ _ _ _).mp (k (z_lo x) (z_hi x)) H locs ls _ h1 h2 h3 h4 ⟨_, _, rfl, ⟨x, rfl, rfl⟩, h6⟩)
theorem zv_getq (hB : zv_B cl FT KXf TBL MT y mm K rm good) {i c j v : Nat} (hd : decode mm.2.1 pc = .ok (.getfield i, 3)) (hi : zv_fi K y i c = some j) (hl : zv_l F j = some (.inr v)) (hv : Nat.blt v 1000 = true) (k : good (pc + 3) L (.inr v :: S) F G) : good pc L (.inr c :: S) F G := by
  obtain ⟨p, l, e, R, s, m, args, below, meth, c, Q, OB, D, DA, sz, A, H0, Ts, cells, slots, ⟨hx, hb, hml, hD, hKS⟩, ⟨hsz, hXp, hX, -⟩, ⟨hwf, hinj, hge, hOB⟩, hg⟩ := hB
  refine (hg _ _ _ _ _).mpr fun H locs ls stk h1 h2 h3 h4 h5 => ?_
  obtain ⟨w, st, rfl, hw, h6⟩ := h5
  have hw : w = .ref (A _) := zv_w_r hw (zv_fi_lt hwf hi)
  subst hw
  obtain ⟨ci, kf, f1, f2⟩ := zv_fi_ok hi
  obtain ⟨r, wx, fx, r1, r2, r3, r4, r5⟩ := h1.2.1 _ f2
  rw [hl] at r4
  cases r4
  have hv5 : v < 5000 := by have := z_blt hv; omega
  have hwx : wx = .ref (A v) := zv_w_r (r5 (z_blt hv)) hv5
  subst hwx
  exact z_getrow hx hb hKS.1 hD f1 r3 hd ((hg _ _ _ _ _).mp k H locs ls _ h1 h2 h3 h4 ⟨_, _, rfl, zv_w_mk hv5, h6⟩)
theorem zv_getr (hB : zv_B cl FT KXf TBL MT y mm K rm good) {i c j : Nat} (hd : decode mm.2.1 pc = .ok (.getfield i, 3)) (hi : zv_fr K y i c = some j) (k : good (pc + 3) L (.inr j :: S) F G) : good pc L (.inr c :: S) F G := by
  obtain ⟨p, l, e, R, s, m, args, below, meth, c, Q, OB, D, DA, sz, A, H0, Ts, cells, slots, ⟨hx, hb, hml, hD, hKS⟩, ⟨hsz, hXp, hX, -⟩, ⟨hwf, hinj, hge, hOB⟩, hg⟩ := hB
  refine (hg _ _ _ _ _).mpr fun H locs ls stk h1 h2 h3 h4 h5 => ?_
  obtain ⟨w, st, rfl, hw, h6⟩ := h5
  have hw : w = .ref (A _) := zv_w_r hw ((zv_fr_lt hwf hi).1)
  subst hw
  obtain ⟨ci, kf, f1, f2⟩ := zv_fr_ok hi
  obtain ⟨r, r1, r2, r3⟩ := h1.2.2.1 _ f2
  exact z_getrow hx hb hKS.1 hD f1 r3 hd ((hg _ _ _ _ _).mp k H locs ls _ h1 h2 h3 h4 ⟨_, _, rfl, zv_w_mk (zv_fr_lt hwf hi).2, h6⟩)
theorem zv_S_set {A : Nat → Nat} {sz : Nat} {H0 H H1 : Heap} {locs : List Loc} {a k : Nat} (h : va_S (fun q => sz ≤ q) H0 H locs) (ha : sz ≤ a) (e2 : H1.size = H.size) (e3 : ∀ b : Nat, b ≠ a → H1[b]? = H[b]?) : va_S (fun q => sz ≤ q) H0 H1 (locs ++ [⟨a, k⟩]) := by
  refine ⟨by rw [e2]; exact h.1, fun q h1 h2 => ?_, fun q hq => ?_⟩
  · rw [e3 q (fun e => h2 (by rw [e]; exact ha))]; exact h.2.1 q h1 h2
  · rcases List.mem_append.mp hq with hq | hq
    · exact h.2.2 q hq
    · rw [List.mem_singleton.mp hq]; exact ha
theorem zv_putf (hB : zv_B cl FT KXf TBL MT y mm K rm good) {i c j : Nat} {v : Int} {u : zNV} {bl : Bool} (hd : decode mm.2.1 pc = .ok (.putfield i, 3)) (hi : zv_fi K y i c = some j) (hp : zv_pk cl FT K i = some bl) (hv : bl = true → 0 ≤ v ∧ v ≤ 1) (hl : zv_l F j = some u) (k : good (pc + 3) L S (zv_s F j (.inl v)) G) : good pc L (.inl v :: .inr c :: S) F G := by
  obtain ⟨p, l, e, R, s, m, args, below, meth, cc, Q, OB, D, DA, sz, A, H0, Ts, cells, slots, ⟨hx, hb, hml, hD, hKS⟩, ⟨hsz, hXp, hX, -⟩, ⟨hwf, hinj, hge, hOB⟩, hg⟩ := hB
  refine (hg _ _ _ _ _).mpr fun H locs ls stk h1 h2 h3 h4 h5 => ?_
  obtain ⟨w, st, rfl, ⟨x, rfl, rfl⟩, w2, st2, rfl, hw, h6⟩ := h5
  have hw : w2 = .ref (A _) := zv_w_r hw (zv_fi_lt hwf hi)
  subst hw
  unfold zv_pk at hp
  unfold zv_fi at hi
  cases hq : (k_FL K).find? (fun q => Nat.beq q.1 i) with
  | none => rw [hq] at hp; cases hp
  | some q =>
    rw [hq] at hp hi
    have hm := List.mem_of_find?_eq_some hq
    have hp0 := List.find?_some hq
    have hp0 : Nat.beq q.1 i = true := hp0
    obtain ⟨q1, ci, kf⟩ := q
    have e1 : q1 = i := z_beq hp0
    subst e1
    have hi : ((n_I y).find? (fun u => Nat.beq u.1 c && Nat.beq u.2.1 ci && Nat.beq u.2.2.1 kf)).map (fun u => u.2.2.2) = some j := hi
    cases hu : (n_I y).find? (fun u => Nat.beq u.1 c && Nat.beq u.2.1 ci && Nat.beq u.2.2.1 kf) with
    | none => rw [hu] at hi; cases hi
    | some z =>
      rw [hu] at hi
      cases hi
      have um := List.mem_of_find?_eq_some hu
      have up := List.find?_some hu
      simp only [Bool.and_eq_true] at up
      obtain ⟨z1, z2, z3, z4⟩ := z
      have e2 : z1 = c := z_beq up.1.1
      have e3 : z2 = ci := z_beq up.1.2
      have e4 : z3 = kf := z_beq up.2
      subst e2; subst e3; subst e4
      have hp : (match cl[z2]? with
        | some r => cond (r.2.1 z3).2.2.2 none (match FT z2 z3 with
          | .int => some false
          | .boolean => some true
          | _ => none)
        | none => none) = some bl := hp
      obtain ⟨hlt, o, ho, ho1, ho2⟩ := zv_wfIn hwf um
      obtain ⟨r, V, r1, r2⟩ := h1.1 o ho
      rw [ho1, ho2] at r2
      rw [ho2] at r1
      rw [r1] at hp
      have hp : cond (r.2.1 z3).2.2.2 none (match FT z2 z3 with
          | .int => some false
          | .boolean => some true
          | _ => none) = some bl := hp
      cases hf : (r.2.1 z3).2.2.2 with
      | true => rw [hf] at hp; cases hp
      | false =>
        rw [hf] at hp
        have hp : (match FT z2 z3 with
          | .int => some false
          | .boolean => some true
          | _ => none) = some bl := hp
        have hn : narrow (FT z2 z3) (.int x) = .int x ∧ fits (FT z2 z3) (.int x) = true := by
          split at hp
          · rename_i hty; rw [hty]; exact ⟨rfl, rfl⟩
          · rename_i hty
            cases hp
            obtain ⟨b1, b2⟩ := hv rfl
            rw [hty]
            have hx : x.toInt = 0 ∨ x.toInt = 1 := by omega
            rcases hx with hx | hx
            · have : x = 0 := z_int0 hx
              subst this
              exact ⟨rfl, rfl⟩
            · have : x = 1 := Int32.toInt_inj.mp (by rw [hx]; rfl)
              subst this
              exact ⟨rfl, rfl⟩
          · cases hp
        refine z_putrow hx hb hKS.1 hD hm r1 r2 (Or.inl hf) hn hd fun H1 cell g1 g2 g3 g4 g5 => ?_
        have g1 : H[A z1]? = some cell := g1
        have g2 : H1[A z1]? = some (cell.setSlot (D.2 z2 z3) (.int x)) := g2
        have hap := z_apart hKS.1 hD r1
        have hne : ∀ b, b < n_N y → b ≠ z1 → A b ≠ A z1 := fun b hb1 hb2 hb3 => hb2 (hinj _ _ hb1 hlt hb3)
        have hz3 : z3 < r.2.2 := by
          obtain ⟨r', x', f', x1, x2, x3⟩ := h1.2.1 _ um
          rw [r1] at x1; cases x1; exact x2
        have slk : ∀ (k2 : Nat) (w : Value), k2 < r.2.2 → k2 ≠ z3 → z_sl H (A z1) (D.2 z2 k2) w → z_sl H1 (A z1) (D.2 z2 k2) w := by
          intro k2 w hk2 hk3 ⟨cell2, y1, y2, y3⟩
          rw [g1] at y1
          cases y1
          exact ⟨_, g2, y2, by rw [slot_ne _ _ (fun h7 => hap k2 z3 hk2 hz3 hk3 h7.symm)]; exact y3⟩
        refine (hg _ _ _ _ _).mp k H1 _ ls st2 ⟨fun q hq => ?_, fun q hq => ?_, fun q hq => ?_, fun q hq => ?_⟩ (zv_frm_tr h2 ⟨g3, fun b hb1 => g4 b (fun e => hb1 z1 hlt e.symm), fun q hq r' k2 w hr hk2 hk3 hk4 => ?_⟩) (zv_S_set (A := A) h3 (hge _ hlt) g3 g4) h4 h6
        · obtain ⟨w1, w2, w3⟩ := zv_wfO hwf hq
          by_cases e : q.1 = z1
          · have : q.2 = z2 := w3 _ um e
            rw [e, this]
            exact ⟨r, _, r1, g5⟩
          · obtain ⟨r', V', x1, x2⟩ := h1.1 q hq
            exact ⟨r', V', x1, x2.kept (g4 _ (hne _ w1 e))⟩
        · obtain ⟨r', x', f', x1, x2, x3, x4, x5⟩ := h1.2.1 q hq
          obtain ⟨w1, w2⟩ := zv_wfI hwf hq um
          by_cases e : q.1 = z1
          · have e2 : q.2.1 = z2 := w2 e
            by_cases e3 : q.2.2.1 = z3
            · have e4 : q.2.2.2 = z4 := w1.mpr ⟨e, e3⟩
              refine ⟨r', .int x, .inl x.toInt, x1, x2, ?_, ?_, fun _ => ⟨x, rfl, rfl⟩⟩
              · rw [e, e2, e3]
                obtain ⟨cell2, y1, y2, y3⟩ := g5
                refine ⟨cell2, y1, y3.1, ?_⟩
                rw [y3.2 _ hz3]
                simp [updV]
              · rw [e4]; exact zv_ls_eq hl
            · refine ⟨r', x', f', x1, x2, ?_, ?_, x5⟩
              · rw [e2] at x1
                rw [r1] at x1
                cases x1
                rw [e, e2] at x3 ⊢
                exact slk _ _ x2 e3 x3
              · rw [zv_ls_ne (fun h7 => e3 (w1.mp h7.symm).2)]; exact x4
          · refine ⟨r', x', f', x1, x2, z_sl_kept x3 (g4 _ (hne _ (zv_wfIn hwf hq).1 e)), ?_, x5⟩
            rw [zv_ls_ne (fun h7 => e (w1.mp h7.symm).1)]; exact x4
        · obtain ⟨r', x1, x2, x3⟩ := h1.2.2.1 q hq
          obtain ⟨w1, w2⟩ := zv_wfIR hwf um hq
          refine ⟨r', x1, x2, ?_⟩
          by_cases e : q.1 = z1
          · have e2 : q.2.1 = z2 := (w2 e.symm).symm
            rw [e2] at x1
            rw [r1] at x1
            cases x1
            rw [e, e2] at x3 ⊢
            exact slk _ _ x2 (fun h7 => w1 ⟨e.symm, h7.symm⟩) x3
          · exact z_sl_kept x3 (g4 _ (hne _ (zv_wfR hwf hq).1 e))
        · obtain ⟨f, g, x1, x2, x3⟩ := h1.2.2.2 q hq
          obtain ⟨w1, w2, w3, w4⟩ := zv_wfA hwf hq
          exact ⟨f, g, by rw [g4 _ (hne _ w1 (w3 _ um))]; exact x1, x2, x3⟩
        · by_cases e : q.1 = z1
          · have e2 : q.2 = z2 := (zv_wfO hwf hq).2.2 _ um e
            rw [e2] at hr
            rw [r1] at hr
            cases hr
            rw [e, e2] at hk4 ⊢
            exact slk _ _ hk2 (fun h7 => hk3 _ um e.symm h7.symm) hk4
          · exact z_sl_kept hk4 (g4 _ (hne _ (zv_wfO hwf hq).1 e))
theorem zv_putq (hB : zv_B cl FT KXf TBL MT y mm K rm good) {i c j v : Nat} {u : zNV} (hd : decode mm.2.1 pc = .ok (.putfield i, 3)) (hi : zv_fi K y i c = some j) (hp : zv_pq cl FT K i = some true) (hv : v < 1000) (hl : zv_l F j = some u) (k : good (pc + 3) L S (zv_s F j (.inr v)) G) : good pc L (.inr v :: .inr c :: S) F G := by
  obtain ⟨p, l, e, R, s, m, args, below, meth, cc, Q, OB, D, DA, sz, A, H0, Ts, cells, slots, ⟨hx, hb, hml, hD, hKS⟩, ⟨hsz, hXp, hX, -⟩, ⟨hwf, hinj, hge, hOB⟩, hg⟩ := hB
  refine (hg _ _ _ _ _).mpr fun H locs ls stk h1 h2 h3 h4 h5 => ?_
  obtain ⟨w, st, rfl, hw0, w2, st2, rfl, hw, h6⟩ := h5
  have hw : w2 = .ref (A _) := zv_w_r hw (zv_fi_lt hwf hi)
  have hw0 : w = .ref (A v) := zv_w_r hw0 (by omega)
  subst hw
  subst hw0
  unfold zv_pq at hp
  unfold zv_fi at hi
  cases hq : (k_FL K).find? (fun q => Nat.beq q.1 i) with
  | none => rw [hq] at hp; cases hp
  | some q =>
    rw [hq] at hp hi
    have hm := List.mem_of_find?_eq_some hq
    have hp0 := List.find?_some hq
    have hp0 : Nat.beq q.1 i = true := hp0
    obtain ⟨q1, ci, kf⟩ := q
    have e1 : q1 = i := z_beq hp0
    subst e1
    have hi : ((n_I y).find? (fun u => Nat.beq u.1 c && Nat.beq u.2.1 ci && Nat.beq u.2.2.1 kf)).map (fun u => u.2.2.2) = some j := hi
    cases hu : (n_I y).find? (fun u => Nat.beq u.1 c && Nat.beq u.2.1 ci && Nat.beq u.2.2.1 kf) with
    | none => rw [hu] at hi; cases hi
    | some z =>
      rw [hu] at hi
      cases hi
      have um := List.mem_of_find?_eq_some hu
      have up := List.find?_some hu
      simp only [Bool.and_eq_true] at up
      obtain ⟨z1, z2, z3, z4⟩ := z
      have e2 : z1 = c := z_beq up.1.1
      have e3 : z2 = ci := z_beq up.1.2
      have e4 : z3 = kf := z_beq up.2
      subst e2; subst e3; subst e4
      have hp : (match cl[z2]? with
        | some r => cond (r.2.1 z3).2.2.2 none (match FT z2 z3 with
          | .object _ => some true
          | .array _ => some true
          | _ => none)
        | none => none) = some true := hp
      obtain ⟨hlt, o, ho, ho1, ho2⟩ := zv_wfIn hwf um
      obtain ⟨r, V, r1, r2⟩ := h1.1 o ho
      rw [ho1, ho2] at r2
      rw [ho2] at r1
      rw [r1] at hp
      have hp : cond (r.2.1 z3).2.2.2 none (match FT z2 z3 with
          | .object _ => some true
          | .array _ => some true
          | _ => none) = some true := hp
      cases hf : (r.2.1 z3).2.2.2 with
      | true => rw [hf] at hp; cases hp
      | false =>
        rw [hf] at hp
        have hp : (match FT z2 z3 with
          | .object _ => some true
          | .array _ => some true
          | _ => none) = some true := hp
        have hn : narrow (FT z2 z3) (.ref (A v)) = .ref (A v) ∧ fits (FT z2 z3) (.ref (A v)) = true := by
          split at hp
          · rename_i hty; rw [hty]; exact ⟨rfl, rfl⟩
          · rename_i hty; rw [hty]; exact ⟨rfl, rfl⟩
          · cases hp
        refine z_putrow hx hb hKS.1 hD hm r1 r2 (Or.inl hf) hn hd fun H1 cell g1 g2 g3 g4 g5 => ?_
        have g1 : H[A z1]? = some cell := g1
        have g2 : H1[A z1]? = some (cell.setSlot (D.2 z2 z3) (.ref (A v))) := g2
        have hap := z_apart hKS.1 hD r1
        have hne : ∀ b, b < n_N y → b ≠ z1 → A b ≠ A z1 := fun b hb1 hb2 hb3 => hb2 (hinj _ _ hb1 hlt hb3)
        have hz3 : z3 < r.2.2 := by
          obtain ⟨r', x', f', x1, x2, x3⟩ := h1.2.1 _ um
          rw [r1] at x1; cases x1; exact x2
        have slk : ∀ (k2 : Nat) (w : Value), k2 < r.2.2 → k2 ≠ z3 → z_sl H (A z1) (D.2 z2 k2) w → z_sl H1 (A z1) (D.2 z2 k2) w := by
          intro k2 w hk2 hk3 ⟨cell2, y1, y2, y3⟩
          rw [g1] at y1
          cases y1
          exact ⟨_, g2, y2, by rw [slot_ne _ _ (fun h7 => hap k2 z3 hk2 hz3 hk3 h7.symm)]; exact y3⟩
        refine (hg _ _ _ _ _).mp k H1 _ ls st2 ⟨fun q hq => ?_, fun q hq => ?_, fun q hq => ?_, fun q hq => ?_⟩ (zv_frm_tr h2 ⟨g3, fun b hb1 => g4 b (fun e => hb1 z1 hlt e.symm), fun q hq r' k2 w hr hk2 hk3 hk4 => ?_⟩) (zv_S_set (A := A) h3 (hge _ hlt) g3 g4) h4 h6
        · obtain ⟨w1, w2, w3⟩ := zv_wfO hwf hq
          by_cases e : q.1 = z1
          · have : q.2 = z2 := w3 _ um e
            rw [e, this]
            exact ⟨r, _, r1, g5⟩
          · obtain ⟨r', V', x1, x2⟩ := h1.1 q hq
            exact ⟨r', V', x1, x2.kept (g4 _ (hne _ w1 e))⟩
        · obtain ⟨r', x', f', x1, x2, x3, x4, x5⟩ := h1.2.1 q hq
          obtain ⟨w1, w2⟩ := zv_wfI hwf hq um
          by_cases e : q.1 = z1
          · have e2 : q.2.1 = z2 := w2 e
            by_cases e3 : q.2.2.1 = z3
            · have e4 : q.2.2.2 = z4 := w1.mpr ⟨e, e3⟩
              refine ⟨r', .ref (A v), .inr v, x1, x2, ?_, ?_, fun _ => zv_w_mk (by omega)⟩
              · rw [e, e2, e3]
                obtain ⟨cell2, y1, y2, y3⟩ := g5
                refine ⟨cell2, y1, y3.1, ?_⟩
                rw [y3.2 _ hz3]
                simp [updV]
              · rw [e4]; exact zv_ls_eq hl
            · refine ⟨r', x', f', x1, x2, ?_, ?_, x5⟩
              · rw [e2] at x1
                rw [r1] at x1
                cases x1
                rw [e, e2] at x3 ⊢
                exact slk _ _ x2 e3 x3
              · rw [zv_ls_ne (fun h7 => e3 (w1.mp h7.symm).2)]; exact x4
          · refine ⟨r', x', f', x1, x2, z_sl_kept x3 (g4 _ (hne _ (zv_wfIn hwf hq).1 e)), ?_, x5⟩
            rw [zv_ls_ne (fun h7 => e (w1.mp h7.symm).1)]; exact x4
        · obtain ⟨r', x1, x2, x3⟩ := h1.2.2.1 q hq
          obtain ⟨w1, w2⟩ := zv_wfIR hwf um hq
          refine ⟨r', x1, x2, ?_⟩
          by_cases e : q.1 = z1
          · have e2 : q.2.1 = z2 := (w2 e.symm).symm
            rw [e2] at x1
            rw [r1] at x1
            cases x1
            rw [e, e2] at x3 ⊢
            exact slk _ _ x2 (fun h7 => w1 ⟨e.symm, h7.symm⟩) x3
          · exact z_sl_kept x3 (g4 _ (hne _ (zv_wfR hwf hq).1 e))
        · obtain ⟨f, g, x1, x2, x3⟩ := h1.2.2.2 q hq
          obtain ⟨w1, w2, w3, w4⟩ := zv_wfA hwf hq
          exact ⟨f, g, by rw [g4 _ (hne _ w1 (w3 _ um))]; exact x1, x2, x3⟩
        · by_cases e : q.1 = z1
          · have e2 : q.2 = z2 := (zv_wfO hwf hq).2.2 _ um e
            rw [e2] at hr
            rw [r1] at hr
            cases hr
            rw [e, e2] at hk4 ⊢
            exact slk _ _ hk2 (fun h7 => hk3 _ um e.symm h7.symm) hk4
          · exact z_sl_kept hk4 (g4 _ (hne _ (zv_wfO hwf hq).1 e))
end ZVHEAP
end
section
/-! Rules over named cells: arrays, calls, a method's contract. -/
section ZVARR
variable {cl : List vw_C} {FT : Nat → Nat → FieldType} {KXf : (Nat → Nat) → Nat → State → Heap → Prop} {TBL : List Cond} {MT : List zM} {y : zNL} {mm : zM} {K : zK} {rm : Nat × Nat} {good : Nat → List zNV → List zNV → List zNV → List (Int → Int) → Prop}
variable {pc : Nat} {L S : List zNV} {F : List zNV} {G : List (Int → Int)}
theorem zv_ix {x : Int32} {n : Nat} (h1 : 0 ≤ x.toInt) (h2 : x.toInt < n) : ¬ (x < 0 ∨ n ≤ x.toNatClampNeg) ∧ x.toInt.toNat < n := by
  refine ⟨fun h => ?_, by omega⟩
  rcases h with h | h
  · have := Int32.lt_iff_toInt_lt.mp h
    have z0 : (0 : Int32).toInt = 0 := rfl
    omega
  · rw [z_clamp] at h; omega
theorem zv_iald (hB : zv_B cl FT KXf TBL MT y mm K rm good) {c n j : Nat} {a : Int} {g : Int → Int} (hd : decode mm.2.1 pc = .ok (.iaload, 1)) (ha : zv_ar y c = some (0, n, j)) (hl : zv_l G j = some g) (ha1 : 0 ≤ a) (ha2 : a < n) (k : -2147483648 ≤ g a → g a ≤ 2147483647 → good (pc + 1) L (.inl (g a) :: S) F G) : good pc L (.inl a :: .inr c :: S) F G := by
  obtain ⟨p, l, e, R, s, m, args, below, meth, cc, Q, OB, D, DA, sz, A, H0, Ts, cells, slots, ⟨hx, hb, hml, hD, hKS⟩, ⟨hsz, hXp, hX, -⟩, ⟨hwf, hinj, hge, hOB⟩, hg⟩ := hB
  refine (hg _ _ _ _ _).mpr fun H locs ls stk h1 h2 h3 h4 h5 => ?_
  obtain ⟨w, st, rfl, ⟨x, rfl, rfl⟩, w2, st2, rfl, hw, h6⟩ := h5
  have hw : w2 = .ref (A _) := zv_w_r hw (zv_ar_lt hwf ha)
  subst hw
  obtain ⟨f, g2, x1, x2, x3⟩ := h1.2.2.2 _ (zv_ar_ok ha)
  rw [hl] at x2
  cases x2
  obtain ⟨b1, b2⟩ := zv_ix ha1 ha2
  obtain ⟨v, v1, v2⟩ := x3 x.toInt.toNat b2
  have ev : ((x.toInt.toNat : Nat) : Int) = x.toInt := Int.toNat_of_nonneg ha1
  rw [ev] at v2
  refine W.iald hx hb x1 (z_isarr hD (k := 0) (by omega) n f) (fun q => by cases q) (by rw [arrV_size]; exact b1) (v := .int v) (by rw [z_clamp, arrV_read _ _ b2, v1]) rfl rfl hd ?_
  rw [← v2] at k
  exact (hg _ _ _ _ _).mp (k (z_lo v) (z_hi v)) H locs ls _ h1 h2 h3 h4 ⟨_, _, rfl, ⟨v, rfl, rfl⟩, h6⟩
theorem zv_bald (hB : zv_B cl FT KXf TBL MT y mm K rm good) {c n j : Nat} {a : Int} {g : Int → Int} (hd : decode mm.2.1 pc = .ok (.baload, 1)) (ha : zv_ar y c = some (1, n, j)) (hl : zv_l G j = some g) (ha1 : 0 ≤ a) (ha2 : a < n) (k : -2147483648 ≤ g a → g a ≤ 2147483647 → good (pc + 1) L (.inl (g a) :: S) F G) : good pc L (.inl a :: .inr c :: S) F G := by
  obtain ⟨p, l, e, R, s, m, args, below, meth, cc, Q, OB, D, DA, sz, A, H0, Ts, cells, slots, ⟨hx, hb, hml, hD, hKS⟩, ⟨hsz, hXp, hX, -⟩, ⟨hwf, hinj, hge, hOB⟩, hg⟩ := hB
  refine (hg _ _ _ _ _).mpr fun H locs ls stk h1 h2 h3 h4 h5 => ?_
  obtain ⟨w, st, rfl, ⟨x, rfl, rfl⟩, w2, st2, rfl, hw, h6⟩ := h5
  have hw : w2 = .ref (A _) := zv_w_r hw (zv_ar_lt hwf ha)
  subst hw
  obtain ⟨f, g2, x1, x2, x3⟩ := h1.2.2.2 _ (zv_ar_ok ha)
  rw [hl] at x2
  cases x2
  obtain ⟨b1, b2⟩ := zv_ix ha1 ha2
  obtain ⟨v, v1, v2⟩ := x3 x.toInt.toNat b2
  have ev : ((x.toInt.toNat : Nat) : Int) = x.toInt := Int.toNat_of_nonneg ha1
  rw [ev] at v2
  refine W.bald hx hb x1 (z_isarr hD (k := 1) (by omega) n f) (fun q => by cases q) (by rw [arrV_size]; exact b1) (v := .int v) (by rw [z_clamp, arrV_read _ _ b2, v1]) rfl rfl hd ?_
  rw [← v2] at k
  exact (hg _ _ _ _ _).mp (k (z_lo v) (z_hi v)) H locs ls _ h1 h2 h3 h4 ⟨_, _, rfl, ⟨v, rfl, rfl⟩, h6⟩
theorem zv_iast (hB : zv_B cl FT KXf TBL MT y mm K rm good) {c n j : Nat} {a v : Int} {g : Int → Int} (hd : decode mm.2.1 pc = .ok (.iastore, 1)) (ha : zv_ar y c = some (0, n, j)) (hl : zv_l G j = some g) (ha1 : 0 ≤ a) (ha2 : a < n) (k : good (pc + 1) L S F (zv_s G j (zv_up g a v))) : good pc L (.inl v :: .inl a :: .inr c :: S) F G := by
  obtain ⟨p, l, e, R, s, m, args, below, meth, cc, Q, OB, D, DA, sz, A, H0, Ts, cells, slots, ⟨hx, hb, hml, hD, hKS⟩, ⟨hsz, hXp, hX, -⟩, ⟨hwf, hinj, hge, hOB⟩, hg⟩ := hB
  refine (hg _ _ _ _ _).mpr fun H locs ls stk h1 h2 h3 h4 h5 => ?_
  obtain ⟨w0, st0, rfl, ⟨u, rfl, rfl⟩, w, st, rfl, ⟨x, rfl, rfl⟩, w2, st2, rfl, hw, h6⟩ := h5
  have hw : w2 = .ref (A _) := zv_w_r hw (zv_ar_lt hwf ha)
  subst hw
  have hm := zv_ar_ok ha
  obtain ⟨f, g2, x1, x2, x3⟩ := h1.2.2.2 _ hm
  rw [hl] at x2
  cases x2
  obtain ⟨b1, b2⟩ := zv_ix ha1 ha2
  obtain ⟨a1, a2, a3, a4⟩ := zv_wfA hwf hm
  have a1 : c < n_N y := a1
  refine W.iast hx hb x1 (z_isarr hD (k := 0) (by omega) n f) (fun q => by cases q) (by rw [arrV_size]; exact b1) rfl rfl hd fun H1 e1 e2 e3 => ?_
  have e1' : H1[A c]? = some (arrV (DA 0) n (updV f x.toNatClampNeg (.int u))) := by rw [e1, arrV_store]
  have hne : ∀ b, b < n_N y → b ≠ c → A b ≠ A c := fun b hb1 hb2 hb3 => hb2 (hinj _ _ hb1 a1 hb3)
  refine (hg _ _ _ _ _).mp k H1 _ ls st2 ⟨fun q hq => ?_, fun q hq => ?_, fun q hq => ?_, fun q hq => ?_⟩ (zv_frm_tr h2 ⟨e2, fun b hb1 => e3 b (fun e => hb1 c a1 e.symm), fun q hq r' k2 w hr hk2 hk3 hk4 => ?_⟩) (zv_S_set (A := A) h3 (hge _ a1) e2 e3) h4 h6
  · obtain ⟨w1, w2, w3⟩ := zv_wfO hwf hq
    obtain ⟨r', V', y1, y2⟩ := h1.1 q hq
    exact ⟨r', V', y1, y2.kept (e3 _ (hne _ w1 (w2 _ hm)))⟩
  · obtain ⟨r', x', f', y1, y2, y3, y4⟩ := h1.2.1 q hq
    exact ⟨r', x', f', y1, y2, z_sl_kept y3 (e3 _ (hne _ (zv_wfIn hwf hq).1 (fun e => a3 _ hq e.symm))), y4⟩
  · obtain ⟨r', y1, y2, y3⟩ := h1.2.2.1 q hq
    exact ⟨r', y1, y2, z_sl_kept y3 (e3 _ (hne _ (zv_wfR hwf hq).1 (fun e => a4 _ hq e.symm)))⟩
  · obtain ⟨f2, g2, y1, y2, y3⟩ := h1.2.2.2 q hq
    obtain ⟨w1, w2, w3, w4⟩ := zv_wfA hwf hq
    by_cases e : q.1 = c
    · obtain ⟨v1, v2⟩ := a2 q hq
      obtain ⟨v3, v4⟩ := v2 e.symm
      have v5 : j = q.2.2.2 := v1.mpr e.symm
      have v3 : 0 = q.2.1 := v3
      have v4 : n = q.2.2.1 := v4
      refine ⟨_, _, by rw [e, ← v3, ← v4]; exact e1', by rw [← v5]; exact zv_ls_eq hl, fun i hi => ?_⟩
      rw [← v4] at hi
      rw [← v3]
      obtain ⟨z, z1, z2⟩ := x3 i hi
      by_cases ei : i = x.toInt.toNat
      · refine ⟨u, ?_, ?_⟩
        · rw [z_clamp, ei]; simp [updV]
        · rw [ei, Int.toNat_of_nonneg ha1, zv_up_s]
      · refine ⟨z, ?_, ?_⟩
        · have hne2 : ¬ i = x.toNatClampNeg := ei
          simp [updV, hne2, z1]
        · rw [zv_up_n (by omega)]; exact z2
    · refine ⟨f2, g2, by rw [e3 _ (hne _ w1 e)]; exact y1, ?_, y3⟩
      rw [zv_ls_ne (fun h7 => e ((w2 _ hm).1.mp h7.symm))]
      exact y2
  · exact z_sl_kept hk4 (e3 _ (hne _ (zv_wfO hwf hq).1 ((zv_wfO hwf hq).2.1 _ hm)))
end ZVARR
/-! Contracts over named cells. -/
def zv_rv (r : Option Int) (v : Option Value) : Prop := match r, v with
  | none, none => True
  | some x, some w => ∃ z : Int32, w = .int z ∧ z.toInt = x
  | _, _ => False
def zv_ro (r : Option Int) (S : List zNV) : List zNV := match r with
  | none => S
  | some x => .inl x :: S
abbrev zNP : Type := List zNV → List zNV → List (Int → Int) → Prop
abbrev zNQ : Type := List zNV → List zNV → List (Int → Int) → Option Int → List zNV → List (Int → Int) → Prop
def zv_Pre (D : va_G) (DA : Nat → ClassId) (cl : List vw_C) (y : zNL) (sz : Nat) (KX : State → Heap → Prop) (A : Nat → Nat) (va : List zNV) (F : List zNV) (G : List (Int → Int)) (args : Array Value) (U : State) : Prop :=
  ∃ vals : List Value, args = vals.toArray ∧ zv_st A va vals ∧ zv_rep D DA cl y A F G U.heap ∧ sz ≤ U.heap.size ∧ va_K D cl (z_tys DA) U ∧ KX U U.heap
def zv_Post (D : va_G) (DA : Nat → ClassId) (cl : List vw_C) (y : zNL) (A : Nat → Nat) (va : List zNV) (F : List zNV) (G : List (Int → Int)) (Qs : zNQ) (_args : Array Value) (st : State) (o : Outcome) (t : State) : Prop :=
  ∃ r v F' G', o = .returned v ∧ zv_rv r v ∧ zv_rep D DA cl y A F' G' t.heap ∧ zv_frm D cl y A st.heap t.heap ∧ Qs va F G r F' G'
def zv_OK (TBL : List Cond) (cl : List vw_C) (KXf : (Nat → Nat) → Nat → State → Heap → Prop) (y : zNL) (mm : zM) (rm : Nat × Nat) (P : zNP) (Qs : zNQ) : Prop :=
  ∀ (l : Launch) (OB : Nat → Nat) (D : va_G) (DA : Nat → ClassId) (sz : Nat) (A : Nat → Nat) (va : List zNV) (F : List zNV) (G : List (Int → Int)), P va F G → (∀ a b, a < n_N y → b < n_N y → A a = A b → a = b) → (∀ a, a < n_N y → sz ≤ A a) → (∀ k, A (900 + k) = OB k) →
    Met l mm.1 (Cond.code mm.1 mm.2.1 mm.2.2.1 mm.2.2.2.1 :: TBL) { frames := rm.1, cells := 0, slots := 0, locals := rm.2 } (zv_Pre D DA cl y sz (KXf OB sz) A va F G) (zv_Post D DA cl y A va F G Qs) 0 0 (fun q => sz ≤ q)
theorem zv_l_get {α : Type} : ∀ {L : List α} {i : Nat}, zv_l L i = L[i]?
  | [], _ => rfl
  | _ :: _, 0 => rfl
  | _ :: L, i + 1 => by
    show zv_l L i = _
    rw [zv_l_get]; rfl
theorem zv_st_len {A : Nat → Nat} : ∀ {va : List zNV} {vals : List Value}, zv_st A va vals → vals.length = va.length
  | [], k, h => by
    have h : k = [] := h
    rw [h]; rfl
  | v :: S, k, ⟨w, k', e, _, h⟩ => by rw [e]; simp [zv_st_len h]
theorem zv_st_get {A : Nat → Nat} : ∀ {va : List zNV} {vals : List Value}, zv_st A va vals → ∀ {i : Nat} {v : zNV}, va[i]? = some v → ∃ w, vals[i]? = some w ∧ zv_v A v w
  | [], _, _, _, _, h2 => by simp at h2
  | v :: S, k, ⟨w, k', e, hv, h⟩, 0, u, h2 => by
    have : v = u := by simpa using h2
    subst this; subst e
    exact ⟨w, rfl, hv⟩
  | v :: S, k, ⟨w, k', e, hv, h⟩, i + 1, u, h2 => by
    subst e
    obtain ⟨x, x1, x2⟩ := zv_st_get h (i := i) (by simpa using h2)
    exact ⟨x, by simpa using x1, x2⟩
theorem zv_st_cat {A : Nat → Nat} : ∀ {va : List zNV} {vals : List Value}, va.all zv_n1 = true → zv_st A va vals → ∀ v ∈ vals, v.category = 1
  | [], k, _, h, v, hv => by
    have h : k = [] := h
    rw [h] at hv; exact absurd hv List.not_mem_nil
  | x :: S, k, hn, ⟨w, k', e, hx, h⟩, v, hv => by
    subst e
    rw [List.all_cons, Bool.and_eq_true] at hn
    rcases List.mem_cons.mp hv with rfl | hv
    · exact zv_v1 hn.1 hx
    · exact zv_st_cat hn.2 h v hv
theorem zv_st_app {A : Nat → Nat} : ∀ {va vb : List zNV} {k : List Value}, zv_st A (va ++ vb) k → ∃ x z, k = x ++ z ∧ zv_st A va x ∧ zv_st A vb z
  | [], vb, k, h => ⟨[], k, rfl, rfl, h⟩
  | v :: va, vb, k, ⟨w, k', e, hv, h⟩ => by
    obtain ⟨x, z, e2, h1, h2⟩ := zv_st_app (va := va) (vb := vb) h
    exact ⟨w :: x, z, by rw [e, e2]; rfl, ⟨w, x, rfl, hv, h1⟩, h2⟩
theorem zv_st_mk {A : Nat → Nat} : ∀ {va vb : List zNV} {x z : List Value}, zv_st A va x → zv_st A vb z → zv_st A (va ++ vb) (x ++ z)
  | [], vb, x, z, h, h2 => by
    have h : x = [] := h
    rw [h]; exact h2
  | v :: va, vb, x, z, ⟨w, k', e, hv, h⟩, h2 => by
    subst e
    exact ⟨w, k' ++ z, rfl, hv, zv_st_mk h h2⟩
theorem zv_st_rev {A : Nat → Nat} : ∀ {va : List zNV} {x : List Value}, zv_st A va x → zv_st A va.reverse x.reverse
  | [], x, h => by
    have h : x = [] := h
    rw [h]; rfl
  | v :: va, x, ⟨w, k', e, hv, h⟩ => by
    subst e
    rw [List.reverse_cons, List.reverse_cons]
    exact zv_st_mk (zv_st_rev h) ⟨w, [], rfl, hv, rfl⟩
theorem zv_sum1 : ∀ {k : List Value}, (∀ v ∈ k, v.category = 1) → (k.map fun v => v.category).sum = k.length
  | [], _ => rfl
  | v :: k, h => by
    rw [List.map_cons, List.sum_cons, h v List.mem_cons_self, zv_sum1 (fun x hx => h x (List.mem_cons_of_mem _ hx))]
    simp [Nat.add_comm]
theorem zv_blind {D : va_G} {DA : Nat → ClassId} {cl : List vw_C} {y : zNL} {sz : Nat} {A : Nat → Nat} {va : List zNV} {F : List zNV} {G : List (Int → Int)} {KX : State → Heap → Prop} (hXp : z_KXp sz KX) : FrameBlind (zv_Pre D DA cl y sz KX A va F G) := by
  intro a U gf mk h
  obtain ⟨vals, h1, h2, h3, h4, h5, h6⟩ := h
  exact ⟨vals, h1, h2, h3, h4, va_K.moved (u := U) (U := U.calling gf mk a) (Vm.Alike.refl U.vm) h5, hXp.2.2 U (U.calling gf mk a) _ rfl h6⟩
end
section
/-! Calls over named cells; a method's contract. -/
/-- the method that is called -/
def zv_lk (K : zK) (MT : List zM) (kinds : Nat → Bool) (i : Nat) : Option zM := match (k_LK K).find? (fun q => Nat.beq q.1 i && kinds q.2.1) with
  | some q => MT[q.2.2]?
  | none => none
section ZVCALL
variable {cl : List vw_C} {FT : Nat → Nat → FieldType} {KXf : (Nat → Nat) → Nat → State → Heap → Prop} {TBL : List Cond} {MT : List zM} {y : zNL} {mm : zM} {K : zK} {rm : Nat × Nat} {good : Nat → List zNV → List zNV → List zNV → List (Int → Int) → Prop}
variable {pc : Nat} {L S : List zNV} {F : List zNV} {G : List (Int → Int)}
theorem zv_lk_ok {kinds : Nat → Bool} {i : Nat} {mm2 : zM} {Ts : List Cond} {own : String} (hKS : z_KS Ts TBL cl FT own MT K) (h : zv_lk K MT kinds i = some mm2) (hk : ∀ k, kinds k = true → k ≤ 4) :
    ∃ k, kinds k = true ∧ z_lk Ts own k i mm2.1 mm2.2.1 mm2.2.2.1 mm2.2.2.2.1 mm2.2.2.2.2.1 ∧ (k = 0 → ∃ r, cl[mm2.2.2.2.2.2]? = some r ∧ r.1 = mm2.1.cls) := by
  unfold zv_lk at h
  split at h
  · rename_i q hq
    have hm := List.mem_of_find?_eq_some hq
    have hp := List.find?_some hq
    have hp : (Nat.beq q.1 i && kinds q.2.1) = true := hp
    rw [Bool.and_eq_true] at hp
    obtain ⟨m3, x1, x2, x3⟩ := (hKS.2.2.1 q hm).2.2 (hk _ hp.2)
    rw [h] at x1
    cases x1
    rw [z_beq hp.1] at x2
    exact ⟨q.2.1, hp.2, x2, x3⟩
  · cases h
theorem zv_after {p : Program} {l : Launch} {e : Env} {R : Room} {s : State} {m : MethodId} {args : Array Value} {below : List Frame} {meth : Method} {c : Code} {Q : State → Prop} {sz : Nat} {H0 H : Heap} {locs : List Loc} {cells slots : Nat} {ls : Array Slot} {st0 rest : List Value} {Qz : State → Outcome → State → Prop}
    (hr : va_Run p l e R s m args below meth c H locs cells slots 0 0 (F0 m pc ls st0) rest Qz (fun q => sz ≤ q)) (hS : va_S (fun q => sz ≤ q) H0 H locs)
    (hQ : ∀ (v : Option Value) (s1 t : State), s1.heap = H → Qz s1 (.returned v) t → t.heap.size = H.size ∧ ∀ q : Nat, ¬ sz ≤ q → t.heap[q]? = H[q]?)
    (kk : ∀ (v : Option Value) (s1 t : State) (locs1 : List Loc), s1.heap = H → Qz s1 (.returned v) t → va_S (fun q => sz ≤ q) H0 t.heap locs1 → W p l e R s m args below meth c t.heap locs1 cells slots Q (F0 m (pc + 3) ls (v.toList ++ rest))) : W p l e R s m args below meth c H locs cells slots Q (F0 m pc ls st0) := by
  intro T1 hT X
  obtain ⟨v, st₀, t, T', L, h0, X', hL, e1, e2, hq, st⟩ := hr T1 hT X
  obtain ⟨q1, q2⟩ := hQ v st₀ t h0 hq
  obtain ⟨t2, a1, b1⟩ := kk v st₀ t (locs ++ L) h0 hq ⟨by rw [q1]; exact hS.1, fun q h1 h2 => by rw [q2 q h2]; exact hS.2.1 q h1 h2, fun q hq => by
      rcases List.mem_append.mp hq with h | h
      · exact hS.2.2 q h
      · exact hL q h⟩ T' e1 X'
  exact ⟨t2, st t2 a1, b1⟩
theorem zv_inv0 (hB : zv_B cl FT KXf TBL MT y mm K rm good) {i c : Nat} {mm2 : zM} {rm2 : Nat × Nat} {P2 : zNP} {Q2 : zNQ} {va : List zNV} (hok : zv_OK TBL cl KXf y mm2 rm2 P2 Q2) (hd : decode mm.2.1 pc = .ok (.invokevirtual i, 3)) (hl : zv_lk K MT (fun k => Nat.beq k 0) i = some mm2)
    (hc : (n_O y).any (fun o => Nat.beq o.1 c && Nat.beq o.2 mm2.2.2.2.2.2) = true) (hn : Nat.beq va.length mm2.2.2.2.2.1 = true) (hS : (Nat.ble S.length 8 && S.all zv_n1) = true) (hr : (Nat.ble (rm2.1 + 1) rm.1 && Nat.ble (8 + (mm2.2.2.1 + 11) + rm2.2) rm.2) = true)
    (hP : P2 (.inr c :: va) F G) (k : ∀ r F' G', Q2 (.inr c :: va) F G r F' G' → good (pc + 3) L (zv_ro r S) F' G') : good pc L (va.reverse ++ .inr c :: S) F G := by
  obtain ⟨p, l, e, R, s, m, args, below, meth, cc, Q, OB, D, DA, sz, A, H0, Ts, cells, slots, ⟨hx, hb, hml, hD, hKS⟩, ⟨hsz, hXp, hX, hrf, hrl, hrc, hrs⟩, ⟨hwf, hinj, hge, hOB⟩, hg⟩ := hB
  refine (hg _ _ _ _ _).mpr fun H locs ls stk h1 h2 h3 h4 h5 => ?_
  obtain ⟨kd, kd1, hlk, hci⟩ := zv_lk_ok hKS hl (fun k hk => by rw [z_beq hk]; omega)
  have : kd = 0 := z_beq kd1
  subst this
  obtain ⟨hcode, hini, hmh, hnp, k1, k2, k3⟩ := hlk
  obtain ⟨hts, hown, hK, htys⟩ := hD
  obtain ⟨va1, st1, rfl, hv1, w0, st2, rfl, hw, h6⟩ := zv_st_app h5
  have hc5 : c < 5000 := zv_any_lt hwf hc
  have hw : w0 = .ref (A c) := zv_w_r hw hc5
  subst hw
  have hrev : ∃ vb, va1 = vb.reverse ∧ zv_st A va vb := ⟨va1.reverse, by rw [List.reverse_reverse], by have := zv_st_rev hv1; rwa [List.reverse_reverse] at this⟩
  obtain ⟨vb, rfl, hvb⟩ := hrev
  obtain ⟨o, ho, ho2⟩ := List.any_eq_true.mp hc
  rw [Bool.and_eq_true] at ho2
  obtain ⟨o1, o2⟩ := o
  have e1 : o1 = c := z_beq ho2.1
  have e2 : o2 = mm2.2.2.2.2.2 := z_beq ho2.2
  subst e1; subst e2
  obtain ⟨r, V, y3, ⟨cell, y5, y6, y7, y8⟩⟩ := h1.1 _ ho
  obtain ⟨r2, hr2, hr3⟩ := hci rfl
  have y3 : cl[mm2.2.2.2.2.2]? = some r := y3
  rw [y3] at hr2
  cases hr2
  have hnp2 : ∀ sig, parseMethodDescriptor mm2.1.desc = some sig → mm2.2.2.2.2.1 = sig.parameters.length := by
    intro sig hsig
    rw [hsig] at hnp
    exact (Option.some.inj hnp).symm
  have hgd := hKS.2.2.2.2.2.1
  have hwsG : ∀ w ∈ (Cond.code mm2.1 mm2.2.1 mm2.2.2.1 mm2.2.2.2.1 :: TBL), ∀ (a' : Array Value) (U : State), s.WarmedH U.vm → w.before a' U = true := by
    refine z_pay hts (fun w hw => ?_)
    rcases List.mem_cons.mp hw with rfl | hw
    · exact ⟨hcode, rfl⟩
    · exact ⟨(hgd w hw).1, (hgd w hw).2⟩
  rw [Bool.and_eq_true] at hr
  have r1 := Nat.le_of_ble_eq_true hr.1
  have r2 := Nat.le_of_ble_eq_true hr.2
  have hH : sz ≤ H.size := by rw [h2.1]; exact hsz
  have hXH : KXf OB sz s H := hXp.2.1 s H0 H hX h3.1 h3.2.1
  have hlen := zv_st_len hvb
  have hst : zv_st A (.inr o1 :: va) (.ref (A o1) :: vb) := ⟨_, _, rfl, zv_w_mk hc5, hvb⟩
  have hpre : ∀ U : State, U.heap = H → s.WarmedH U.vm → zv_Pre D DA cl y sz (KXf OB sz) A (.inr o1 :: va) F G (Value.ref (A o1) :: vb).toArray U := fun U hU hW => ⟨_, rfl, hst, by rw [hU]; exact h1, by rw [hU]; exact hH, va_K.moved hW.alike hK, by rw [hU]; exact hXp.1 s U H hXH hW⟩
  have hsum : (st2.map fun v => v.category).sum ≤ 8 := by
    rw [Bool.and_eq_true] at hS
    rw [zv_sum1 (zv_st_cat hS.2 h6), zv_st_len h6]
    exact Nat.le_of_ble_eq_true hS.1
  refine zv_after (va_runV (b := A o1) (As := vb) (rest := st2) (C := mm2.1.cls) (n := mm2.2.2.2.2.1) ⟨hx, hb, hml, hown, hts⟩ (hok l OB D DA sz A _ F G hP hinj hge hOB) ⟨⟨rfl, rfl, by show rm2.1 + 1 ≤ _; omega, by show 8 + (mm2.2.2.1 + 11) + rm2.2 ≤ _; omega, hwsG, List.mem_cons_self, hts _ hcode, hts _ hini, hmh, hnp2, hts _ k1⟩, hts _ k2, hts _ k3⟩ ⟨zv_blind hXp, ⟨cell, y5, by rw [y7]; rfl, by rw [← hr3, y6]; exact (hK.1 _ _ y3).2.1⟩, hpre⟩ rfl (hlen.trans (z_beq hn)) (by obtain ⟨lv, z1, _⟩ := h4; exact z1.1) rfl (lv_room hsum) hd ⟨hrc, hrs⟩) h3 ?_ ?_
  · intro v s1 t hs1 hq
    obtain ⟨r', v', F', G', e0, q1, q2, q3, q4⟩ := hq
    rw [hs1] at q3
    exact ⟨q3.1, fun q hq => q3.2.1 q (fun c2 hc2 e => hq (by rw [← e]; exact hge _ hc2))⟩
  · intro v s1 t locs1 hs1 hq hS1
    obtain ⟨r', v', F', G', e0, q1, q2, q3, q4⟩ := hq
    have e0 : v = v' := Outcome.returned.inj e0
    subst e0
    rw [hs1] at q3
    refine (hg _ _ _ _ _).mp (k r' F' G' q4) t.heap locs1 ls _ q2 (zv_frm_tr h2 q3) hS1 h4 ?_
    match r', v, q1 with
    | none, none, _ => exact h6
    | some x, some w, ⟨z, z1, z2⟩ => exact ⟨w, st2, rfl, ⟨z, z1, z2⟩, h6⟩
theorem zv_inv1 (hB : zv_B cl FT KXf TBL MT y mm K rm good) {i : Nat} {mm2 : zM} {rm2 : Nat × Nat} {P2 : zNP} {Q2 : zNQ} {va : List zNV} (hok : zv_OK TBL cl KXf y mm2 rm2 P2 Q2) (hd : decode mm.2.1 pc = .ok (.invokestatic i, 3)) (hl : zv_lk K MT (fun k => Nat.beq k 1 || Nat.beq k 4) i = some mm2)
    (hn : Nat.beq va.length mm2.2.2.2.2.1 = true) (hS : (Nat.ble S.length 8 && S.all zv_n1) = true) (hr : (Nat.ble (rm2.1 + 1) rm.1 && Nat.ble (8 + (mm2.2.2.1 + 11) + rm2.2) rm.2) = true)
    (hP : P2 va F G) (k : ∀ r F' G', Q2 va F G r F' G' → good (pc + 3) L (zv_ro r S) F' G') : good pc L (va.reverse ++ S) F G := by
  obtain ⟨p, l, e, R, s, m, args, below, meth, cc, Q, OB, D, DA, sz, A, H0, Ts, cells, slots, ⟨hx, hb, hml, hD, hKS⟩, ⟨hsz, hXp, hX, hrf, hrl, hrc, hrs⟩, ⟨hwf, hinj, hge, hOB⟩, hg⟩ := hB
  refine (hg _ _ _ _ _).mpr fun H locs ls stk h1 h2 h3 h4 h5 => ?_
  obtain ⟨kd, kd1, hlk, hci⟩ := zv_lk_ok hKS hl (fun k hk => by
    rw [Bool.or_eq_true] at hk
    rcases hk with hk | hk <;> (rw [z_beq hk]; omega))
  obtain ⟨hcode, hini, hmh, hnp, hkind⟩ := hlk
  obtain ⟨hts, hown, hK, htys⟩ := hD
  obtain ⟨va1, st2, rfl, hv1, h6⟩ := zv_st_app h5
  have hrev : ∃ vb, va1 = vb.reverse ∧ zv_st A va vb := ⟨va1.reverse, by rw [List.reverse_reverse], by have := zv_st_rev hv1; rwa [List.reverse_reverse] at this⟩
  obtain ⟨vb, rfl, hvb⟩ := hrev
  have hnp2 : ∀ sig, parseMethodDescriptor mm2.1.desc = some sig → mm2.2.2.2.2.1 = sig.parameters.length := by
    intro sig hsig
    rw [hsig] at hnp
    exact (Option.some.inj hnp).symm
  have hgd := hKS.2.2.2.2.2.1
  have hwsG : ∀ w ∈ (Cond.code mm2.1 mm2.2.1 mm2.2.2.1 mm2.2.2.2.1 :: TBL), ∀ (a' : Array Value) (U : State), s.WarmedH U.vm → w.before a' U = true := by
    refine z_pay hts (fun w hw => ?_)
    rcases List.mem_cons.mp hw with rfl | hw
    · exact ⟨hcode, rfl⟩
    · exact ⟨(hgd w hw).1, (hgd w hw).2⟩
  rw [Bool.and_eq_true] at hr
  have r1 := Nat.le_of_ble_eq_true hr.1
  have r2 := Nat.le_of_ble_eq_true hr.2
  have hH : sz ≤ H.size := by rw [h2.1]; exact hsz
  have hXH : KXf OB sz s H := hXp.2.1 s H0 H hX h3.1 h3.2.1
  have hlen := zv_st_len hvb
  have hpre : ∀ U : State, U.heap = H → s.WarmedH U.vm → zv_Pre D DA cl y sz (KXf OB sz) A va F G vb.toArray U := fun U hU hW => ⟨_, rfl, hvb, by rw [hU]; exact h1, by rw [hU]; exact hH, va_K.moved hW.alike hK, by rw [hU]; exact hXp.1 s U H hXH hW⟩
  have hsum : (st2.map fun v => v.category).sum ≤ 8 := by
    rw [Bool.and_eq_true] at hS
    rw [zv_sum1 (zv_st_cat hS.2 h6), zv_st_len h6]
    exact Nat.le_of_ble_eq_true hS.1
  have run : va_Run p l e R s m args below meth cc H locs cells slots 0 0 (F0 m pc ls (vb.reverse ++ st2)) st2 (zv_Post D DA cl y A va F G Q2 vb.toArray) (fun q => sz ≤ q) := by
    rw [Bool.or_eq_true] at kd1
    rcases kd1 with kd1 | kd1
    · have : kd = 1 := z_beq kd1
      subst this
      obtain ⟨k1, k2⟩ := hkind
      exact va_runS (As := vb) (rest := st2) (n := mm2.2.2.2.2.1) ⟨hx, hb, hml, hown, hts⟩ (hok l OB D DA sz A _ F G hP hinj hge hOB) ⟨⟨rfl, rfl, by show rm2.1 + 1 ≤ _; omega, by show 8 + (mm2.2.2.1 + 11) + rm2.2 ≤ _; omega, hwsG, List.mem_cons_self, hts _ hcode, hts _ hini, hmh, hnp2, hts _ k1⟩, hts _ k2⟩ ⟨zv_blind hXp, hpre⟩ rfl (hlen.trans (z_beq hn)) (by obtain ⟨lv, z1, _⟩ := h4; exact z1.1) rfl (lv_room hsum) hd ⟨hrc, hrs⟩
    · have : kd = 4 := z_beq kd1
      subst this
      obtain ⟨⟨host, k1⟩, k2⟩ := hkind
      exact va_runSN (As := vb) (rest := st2) (n := mm2.2.2.2.2.1) ⟨hx, hb, hml, hown, hts⟩ (hok l OB D DA sz A _ F G hP hinj hge hOB) ⟨⟨⟨rfl, rfl, by show rm2.1 + 1 ≤ _; omega, by show 8 + (mm2.2.2.1 + 11) + rm2.2 ≤ _; omega, hwsG, List.mem_cons_self⟩, hts _ hcode, hts _ hini, hmh, hnp2, hts _ k1⟩, hts _ k2, trivial⟩ ⟨zv_blind hXp, hpre⟩ rfl (hlen.trans (z_beq hn)) (by obtain ⟨lv, z1, _⟩ := h4; exact z1.1) rfl (lv_room hsum) hd ⟨hrc, hrs⟩
  refine zv_after run h3 ?_ ?_
  · intro v s1 t hs1 hq
    obtain ⟨r', v', F', G', e0, q1, q2, q3, q4⟩ := hq
    rw [hs1] at q3
    exact ⟨q3.1, fun q hq => q3.2.1 q (fun c2 hc2 e => hq (by rw [← e]; exact hge _ hc2))⟩
  · intro v s1 t locs1 hs1 hq hS1
    obtain ⟨r', v', F', G', e0, q1, q2, q3, q4⟩ := hq
    have e0 : v = v' := Outcome.returned.inj e0
    subst e0
    rw [hs1] at q3
    refine (hg _ _ _ _ _).mp (k r' F' G' q4) t.heap locs1 ls _ q2 (zv_frm_tr h2 q3) hS1 h4 ?_
    match r', v, q1 with
    | none, none, _ => exact h6
    | some x, some w, ⟨z, z1, z2⟩ => exact ⟨w, st2, rfl, ⟨z, z1, z2⟩, h6⟩
/-- what a method may answer by its type -/
def zv_rt (ret : Option FieldType) (r : Option Int) : Prop := match ret, r with
  | none, none => True
  | some .int, some _ => True
  | some .boolean, some v => 0 ≤ v ∧ v ≤ 1
  | _, _ => False
theorem zv_meth {P : zNP} {Qs : zNQ} {n : Nat} (hpl : plainFor mm.1 = true) (hKS : z_KS (Cond.code mm.1 mm.2.1 mm.2.2.1 mm.2.2.2.1 :: TBL) TBL cl FT mm.1.cls MT K) (hXp : ∀ OB sz, z_KXp sz (KXf OB sz)) (hwf : zv_wf y = true) (hn : ∀ va F G, P va F G → va.length = n) (hn1 : ∀ va F G, P va F G → va.all zv_n1 = true) (hnl : Nat.ble n mm.2.2.1 = true)
    (body : ∀ (good : Nat → List zNV → List zNV → List zNV → List (Int → Int) → Prop) (va : List zNV) (F : List zNV) (G : List (Int → Int)), zv_B cl FT KXf TBL MT y mm K rm good → (∀ pc L v F' G', decode mm.2.1 pc = .ok (.ireturn, 1) → zv_rt mm.2.2.2.1 (some v) → Qs va F G (some v) F' G' → good pc L [.inl v] F' G') → (∀ pc L F' G', decode mm.2.1 pc = .ok (.return_, 1) → zv_rt mm.2.2.2.1 none → Qs va F G none F' G' → good pc L [] F' G') →
      P va F G → good 0 (va ++ List.replicate (mm.2.2.1 - n) (.inr 1000)) [] F G) : zv_OK TBL cl KXf y mm rm P Qs := by
  intro l OB D DA sz A va F G hP hinj hge hOB
  refine va_MetF (cc := mm.2.1) (maxL := mm.2.2.1) (ret := mm.2.2.2.1) hpl rfl ?_
  intro p e s m args below meth c s₁ B hml hPre
  obtain ⟨vals, e0, hst, hrep, hsz, hK, hX⟩ := hPre
  subst e0
  have hlen := zv_st_len hst
  have hcat := zv_st_cat (hn1 va F G hP) hst
  have hn0 := hn va F G hP
  have hnl := Nat.le_of_ble_eq_true hnl
  have hts : ∀ w ∈ (Cond.code mm.1 mm.2.1 mm.2.2.1 mm.2.2.2.1 :: TBL), w.before vals.toArray s = true := atoms_spec (ws := Cond.code mm.1 mm.2.1 mm.2.2.1 mm.2.2.2.1 :: TBL) B.pre
  have hown : s.vm.findClass mm.1.cls = some m.cls := findClass_of_methodNamed B.named
  have hD : z_Dy s m vals.toArray (Cond.code mm.1 mm.2.1 mm.2.2.1 mm.2.2.2.1 :: TBL) mm.1.cls D cl DA (z_tys DA) := ⟨hts, hown, hK, z_tys_ok DA⟩
  rw [lg_entry_eq]
  have hb2 := body (fun pc L S F2 G2 => ∀ H locs ls stk, zv_rep D DA cl y A F2 G2 H → zv_frm D cl y A s.heap H → va_S (fun q => sz ≤ q) s.heap H locs → zv_lv mm.2.2.1 ls A L → zv_st A S stk → W p l e { frames := rm.1, cells := 0, slots := 0, locals := rm.2 } s m vals.toArray below meth c H locs 0 0 (MQ below (zv_Post D DA cl y A va F G Qs) vals.toArray s 0 0 (fun q => sz ≤ q)) (F0 m pc ls stk)) va F G
    ⟨p, l, e, _, s, m, vals.toArray, below, meth, c, _, OB, D, DA, sz, A, s.heap, _, 0, 0, ⟨B.exec, B.bytes, hml, hD, hKS⟩, ⟨hsz, hXp OB sz, hX, Nat.le_refl _, Nat.le_refl _, Nat.zero_le _, Nat.zero_le _⟩, ⟨hwf, hinj, hge, hOB⟩, fun _ _ _ _ _ => Iff.rfl⟩ ?_ ?_ hP
  · refine hb2 s.heap [] _ [] hrep zv_frm_rf va_S.rf ?_ rfl
    obtain ⟨a1, a2, a3⟩ := z_args1 vals 0 hcat
    refine ⟨_, lv_entry vals (by rw [a1, hlen, hn0]; exact hnl), a2, fun i v hi hv => ?_⟩
    rw [zv_l_get] at hi
    by_cases hlt : i < va.length
    · rw [List.getElem?_append_left hlt] at hi
      obtain ⟨w, w1, w2⟩ := zv_st_get hst hi
      have := a3 i w w1
      rw [Nat.zero_add] at this
      exact ⟨w, w2, this⟩
    · rw [List.getElem?_append_right (by omega), List.getElem?_replicate] at hi
      split at hi
      · cases hi
        have hv : (1000 : Nat) < 1000 := hv
        omega
      · cases hi
  · intro pc L v F' G' hd hrt hq H locs ls stk h1 h2 h3 h4 h5
    obtain ⟨w, st2, rfl, ⟨x, rfl, rfl⟩, h6⟩ := h5
    have h6 : st2 = [] := h6
    subst h6
    unfold zv_rt at hrt
    split at hrt
    · rename_i e; cases e
    · rename_i hr _
      exact W.iret B.exec B.bytes (B.returns.trans hr) (fun t ht _ => ⟨some x.toInt, _, F', G', rfl, ⟨x, rfl, rfl⟩, by rw [ht]; exact h1, by rw [ht]; exact h2, hq⟩) (fun q hq => h3.2.2 q hq) hd B.notSynchronized
    · rename_i v2 hr e
      cases e
      have hnr : narrow .boolean (.int x) = .int x := by
        have hx : x.toInt = 0 ∨ x.toInt = 1 := by omega
        rcases hx with hx | hx
        · have : x = 0 := z_int0 hx
          subst this
          rfl
        · have : x = 1 := Int32.toInt_inj.mp (by rw [hx]; rfl)
          subst this
          rfl
      exact W.zret B.exec B.bytes (B.returns.trans hr) hnr (fun t ht _ => ⟨some x.toInt, _, F', G', rfl, ⟨x, rfl, rfl⟩, by rw [ht]; exact h1, by rw [ht]; exact h2, hq⟩) (fun q hq => h3.2.2 q hq) hd B.notSynchronized
    · exact absurd hrt (fun h => h)
  · intro pc L F' G' hd hrt hq H locs ls stk h1 h2 h3 h4 h5
    have h5 : stk = [] := h5
    subst h5
    have hr : mm.2.2.2.1 = none := by
      unfold zv_rt at hrt
      split at hrt
      · rename_i hr _; exact hr
      · rename_i e; cases e
      · rename_i e; cases e
      · exact absurd hrt (fun h => h)
    exact W.vret B.exec B.bytes (B.returns.trans hr) (fun t ht _ => ⟨none, none, F', G', rfl, trivial, by rw [ht]; exact h1, by rw [ht]; exact h2, hq⟩) (fun q hq => h3.2.2 q hq) hd B.notSynchronized
end ZVCALL
end
section
/-! Divisions of numbers that are not below 0; calls by how many arguments there are. -/
theorem zv_div_eq {u v : Int32} {a b : Int} (hu : u.toInt = a) (hv : v.toInt = b) (ha : 0 ≤ a) (hb : 0 < b) : (u / v).toInt = a / b := by
  have h1 := z_hi u
  have h2 : a / b ≤ a := by
    rcases Int.lt_or_le b 2 with h | h
    · have : b = 1 := by omega
      subst this; simp
    · exact Int.ediv_le_self b ha
  have h3 : 0 ≤ a / b := Int.ediv_nonneg ha (by omega)
  rw [Int32.toInt_div, hu, hv, Int.tdiv_eq_ediv_of_nonneg ha]
  exact z_bmod (by omega) (by omega)
theorem zv_rem_eq {u v : Int32} {a b : Int} (hu : u.toInt = a) (hv : v.toInt = b) (ha : 0 ≤ a) (hb : 0 < b) : (u - u / v * v).toInt = a % b := by
  have h1 := z_hi u
  have hq := zv_div_eq hu hv ha hb
  have e := Int.mul_ediv_add_emod a b
  have h3 : 0 ≤ a % b := Int.emod_nonneg _ (by omega)
  have h4 : 0 ≤ a / b := Int.ediv_nonneg ha (by omega)
  have h5 : 0 ≤ a / b * b := Int.mul_nonneg h4 (by omega)
  have e2 : b * (a / b) = a / b * b := Int.mul_comm _ _
  have hm : (u / v * v).toInt = a / b * b := by
    rw [Int32.toInt_mul, hq, hv]
    exact z_bmod (by omega) (by omega)
  rw [Int32.toInt_sub, hm, hu]
  have : a - a / b * b = a % b := by omega
  rw [this]
  exact z_bmod (by omega) (by omega)
section ZVDIV
variable {cl : List vw_C} {FT : Nat → Nat → FieldType} {KXf : (Nat → Nat) → Nat → State → Heap → Prop} {TBL : List Cond} {MT : List zM} {y : zNL} {mm : zM} {K : zK} {rm : Nat × Nat} {good : Nat → List zNV → List zNV → List zNV → List (Int → Int) → Prop}
variable {pc : Nat} {L S : List zNV} {F : List zNV} {G : List (Int → Int)}
theorem zv_idiv (hB : zv_B cl FT KXf TBL MT y mm K rm good) {a b : Int} (hd : decode mm.2.1 pc = .ok (.idiv, 1)) (ha : 0 ≤ a) (hb : 0 < b) (k : good (pc + 1) L (.inl (a / b) :: S) F G) : good pc L (.inl b :: .inl a :: S) F G :=
  zv_bin0 hB hd rfl (by omega) fun u v hu hv => by
    show good _ _ (.inl (u / v).toInt :: _) _ _
    rw [zv_div_eq hu hv ha hb]; exact k
theorem zv_irem (hB : zv_B cl FT KXf TBL MT y mm K rm good) {a b : Int} (hd : decode mm.2.1 pc = .ok (.irem, 1)) (ha : 0 ≤ a) (hb : 0 < b) (k : good (pc + 1) L (.inl (a % b) :: S) F G) : good pc L (.inl b :: .inl a :: S) F G :=
  zv_bin0 hB hd rfl (by omega) fun u v hu hv => by
    show good _ _ (.inl (u - u / v * v).toInt :: _) _ _
    rw [zv_rem_eq hu hv ha hb]; exact k
section ZVARITY
variable {i : Nat} {mm2 : zM} {rm2 : Nat × Nat} {P2 : zNP} {Q2 : zNQ} {c : Nat} {a b d e : zNV}
theorem zv_iv0 (hB : zv_B cl FT KXf TBL MT y mm K rm good) (hok : zv_OK TBL cl KXf y mm2 rm2 P2 Q2) (hd : decode mm.2.1 pc = .ok (.invokevirtual i, 3)) (hl : zv_lk K MT (fun k => Nat.beq k 0) i = some mm2) (hc : ((n_O y).any (fun o => Nat.beq o.1 c && Nat.beq o.2 mm2.2.2.2.2.2) && Nat.beq 0 mm2.2.2.2.2.1 && (Nat.ble S.length 8 && S.all zv_n1) && (Nat.ble (rm2.1 + 1) rm.1 && Nat.ble (8 + (mm2.2.2.1 + 11) + rm2.2) rm.2)) = true)
    (hP : P2 [.inr c] F G) (k : ∀ r F' G', Q2 [.inr c] F G r F' G' → good (pc + 3) L (zv_ro r S) F' G') : good pc L (.inr c :: S) F G := by
  rw [Bool.and_eq_true, Bool.and_eq_true, Bool.and_eq_true] at hc
  exact zv_inv0 (va := []) hB hok hd hl hc.1.1.1 hc.1.1.2 hc.1.2 hc.2 hP k
theorem zv_iv1 (hB : zv_B cl FT KXf TBL MT y mm K rm good) (hok : zv_OK TBL cl KXf y mm2 rm2 P2 Q2) (hd : decode mm.2.1 pc = .ok (.invokevirtual i, 3)) (hl : zv_lk K MT (fun k => Nat.beq k 0) i = some mm2) (hc : ((n_O y).any (fun o => Nat.beq o.1 c && Nat.beq o.2 mm2.2.2.2.2.2) && Nat.beq 1 mm2.2.2.2.2.1 && (Nat.ble S.length 8 && S.all zv_n1) && (Nat.ble (rm2.1 + 1) rm.1 && Nat.ble (8 + (mm2.2.2.1 + 11) + rm2.2) rm.2)) = true)
    (hP : P2 [.inr c, a] F G) (k : ∀ r F' G', Q2 [.inr c, a] F G r F' G' → good (pc + 3) L (zv_ro r S) F' G') : good pc L (a :: .inr c :: S) F G := by
  rw [Bool.and_eq_true, Bool.and_eq_true, Bool.and_eq_true] at hc
  exact zv_inv0 (va := [a]) hB hok hd hl hc.1.1.1 hc.1.1.2 hc.1.2 hc.2 hP k
theorem zv_iv2 (hB : zv_B cl FT KXf TBL MT y mm K rm good) (hok : zv_OK TBL cl KXf y mm2 rm2 P2 Q2) (hd : decode mm.2.1 pc = .ok (.invokevirtual i, 3)) (hl : zv_lk K MT (fun k => Nat.beq k 0) i = some mm2) (hc : ((n_O y).any (fun o => Nat.beq o.1 c && Nat.beq o.2 mm2.2.2.2.2.2) && Nat.beq 2 mm2.2.2.2.2.1 && (Nat.ble S.length 8 && S.all zv_n1) && (Nat.ble (rm2.1 + 1) rm.1 && Nat.ble (8 + (mm2.2.2.1 + 11) + rm2.2) rm.2)) = true)
    (hP : P2 [.inr c, a, b] F G) (k : ∀ r F' G', Q2 [.inr c, a, b] F G r F' G' → good (pc + 3) L (zv_ro r S) F' G') : good pc L (b :: a :: .inr c :: S) F G := by
  rw [Bool.and_eq_true, Bool.and_eq_true, Bool.and_eq_true] at hc
  exact zv_inv0 (va := [a, b]) hB hok hd hl hc.1.1.1 hc.1.1.2 hc.1.2 hc.2 hP k
theorem zv_iv3 (hB : zv_B cl FT KXf TBL MT y mm K rm good) (hok : zv_OK TBL cl KXf y mm2 rm2 P2 Q2) (hd : decode mm.2.1 pc = .ok (.invokevirtual i, 3)) (hl : zv_lk K MT (fun k => Nat.beq k 0) i = some mm2) (hc : ((n_O y).any (fun o => Nat.beq o.1 c && Nat.beq o.2 mm2.2.2.2.2.2) && Nat.beq 3 mm2.2.2.2.2.1 && (Nat.ble S.length 8 && S.all zv_n1) && (Nat.ble (rm2.1 + 1) rm.1 && Nat.ble (8 + (mm2.2.2.1 + 11) + rm2.2) rm.2)) = true)
    (hP : P2 [.inr c, a, b, d] F G) (k : ∀ r F' G', Q2 [.inr c, a, b, d] F G r F' G' → good (pc + 3) L (zv_ro r S) F' G') : good pc L (d :: b :: a :: .inr c :: S) F G := by
  rw [Bool.and_eq_true, Bool.and_eq_true, Bool.and_eq_true] at hc
  exact zv_inv0 (va := [a, b, d]) hB hok hd hl hc.1.1.1 hc.1.1.2 hc.1.2 hc.2 hP k
theorem zv_it1 (hB : zv_B cl FT KXf TBL MT y mm K rm good) (hok : zv_OK TBL cl KXf y mm2 rm2 P2 Q2) (hd : decode mm.2.1 pc = .ok (.invokestatic i, 3)) (hl : zv_lk K MT (fun k => Nat.beq k 1 || Nat.beq k 4) i = some mm2) (hc : (Nat.beq 1 mm2.2.2.2.2.1 && (Nat.ble S.length 8 && S.all zv_n1) && (Nat.ble (rm2.1 + 1) rm.1 && Nat.ble (8 + (mm2.2.2.1 + 11) + rm2.2) rm.2)) = true)
    (hP : P2 [a] F G) (k : ∀ r F' G', Q2 [a] F G r F' G' → good (pc + 3) L (zv_ro r S) F' G') : good pc L (a :: S) F G := by
  rw [Bool.and_eq_true, Bool.and_eq_true] at hc
  exact zv_inv1 (va := [a]) hB hok hd hl hc.1.1 hc.1.2 hc.2 hP k
theorem zv_it2 (hB : zv_B cl FT KXf TBL MT y mm K rm good) (hok : zv_OK TBL cl KXf y mm2 rm2 P2 Q2) (hd : decode mm.2.1 pc = .ok (.invokestatic i, 3)) (hl : zv_lk K MT (fun k => Nat.beq k 1 || Nat.beq k 4) i = some mm2) (hc : (Nat.beq 2 mm2.2.2.2.2.1 && (Nat.ble S.length 8 && S.all zv_n1) && (Nat.ble (rm2.1 + 1) rm.1 && Nat.ble (8 + (mm2.2.2.1 + 11) + rm2.2) rm.2)) = true)
    (hP : P2 [a, b] F G) (k : ∀ r F' G', Q2 [a, b] F G r F' G' → good (pc + 3) L (zv_ro r S) F' G') : good pc L (b :: a :: S) F G := by
  rw [Bool.and_eq_true, Bool.and_eq_true] at hc
  exact zv_inv1 (va := [a, b]) hB hok hd hl hc.1.1 hc.1.2 hc.2 hP k
theorem zv_it3 (hB : zv_B cl FT KXf TBL MT y mm K rm good) (hok : zv_OK TBL cl KXf y mm2 rm2 P2 Q2) (hd : decode mm.2.1 pc = .ok (.invokestatic i, 3)) (hl : zv_lk K MT (fun k => Nat.beq k 1 || Nat.beq k 4) i = some mm2) (hc : (Nat.beq 3 mm2.2.2.2.2.1 && (Nat.ble S.length 8 && S.all zv_n1) && (Nat.ble (rm2.1 + 1) rm.1 && Nat.ble (8 + (mm2.2.2.1 + 11) + rm2.2) rm.2)) = true)
    (hP : P2 [a, b, d] F G) (k : ∀ r F' G', Q2 [a, b, d] F G r F' G' → good (pc + 3) L (zv_ro r S) F' G') : good pc L (d :: b :: a :: S) F G := by
  rw [Bool.and_eq_true, Bool.and_eq_true] at hc
  exact zv_inv1 (va := [a, b, d]) hB hok hd hl hc.1.1 hc.1.2 hc.2 hP k
theorem zv_it4 (hB : zv_B cl FT KXf TBL MT y mm K rm good) (hok : zv_OK TBL cl KXf y mm2 rm2 P2 Q2) (hd : decode mm.2.1 pc = .ok (.invokestatic i, 3)) (hl : zv_lk K MT (fun k => Nat.beq k 1 || Nat.beq k 4) i = some mm2) (hc : (Nat.beq 4 mm2.2.2.2.2.1 && (Nat.ble S.length 8 && S.all zv_n1) && (Nat.ble (rm2.1 + 1) rm.1 && Nat.ble (8 + (mm2.2.2.1 + 11) + rm2.2) rm.2)) = true)
    (hP : P2 [a, b, d, e] F G) (k : ∀ r F' G', Q2 [a, b, d, e] F G r F' G' → good (pc + 3) L (zv_ro r S) F' G') : good pc L (e :: d :: b :: a :: S) F G := by
  rw [Bool.and_eq_true, Bool.and_eq_true] at hc
  exact zv_inv1 (va := [a, b, d, e]) hB hok hd hl hc.1.1 hc.1.2 hc.2 hP k
end ZVARITY
end ZVDIV
end
section
/-! Over named cells: sums that wrap, what a function asks for. -/
def zi_w (x : Int) : Int := Int.bmod x (2 ^ 32)
theorem zi_w_id {x : Int} (h1 : -2147483648 ≤ x) (h2 : x ≤ 2147483647) : zi_w x = x := z_bmod h1 h2
def zi_ev (op : Int32 → Int32 → Int32) (a b : Int) : Int := (op (Int32.ofInt a) (Int32.ofInt b)).toInt
def zi_and (a b : Int) : Int := zi_ev (fun x y => x &&& y) a b
def zi_or (a b : Int) : Int := zi_ev (fun x y => x ||| y) a b
def zi_xor (a b : Int) : Int := zi_ev (fun x y => x ^^^ y) a b
def zi_shl (a b : Int) : Int := zi_ev (fun x y => x <<< (y &&& 31)) a b
def zi_shr (a b : Int) : Int := zi_ev (fun x y => x >>> (y &&& 31)) a b
def zi_ush (a b : Int) : Int := zi_ev (fun x y => (x.toUInt32 >>> (y.toUInt32 &&& Int32.toUInt32 31)).toInt32) a b
def zi_div (a b : Int) : Int := zi_ev (fun x y => x / y) a b
def zi_rem (a b : Int) : Int := zi_ev (fun x y => x - x / y * y) a b
def zi_by (a : Int) : Int := (Int32.ofInt a).toInt8.toInt32.toInt
def zi_ch (a : Int) : Int := (Int32.ofInt a).toUInt32.toUInt16.toUInt32.toInt32.toInt
theorem zi_if {α : Type} {b : Bool} {k : Option α} {o : α} (h : (cond b k none) = some o) : b = true ∧ k = some o := by
  cases b with
  | true => exact ⟨rfl, h⟩
  | false => cases h
/-- an index that fits -/
def zi_ix (a : Int) (n : Nat) : Bool := decide (0 ≤ a) && decide (a < n)
theorem zi_ix_ok {a : Int} {n : Nat} (h : zi_ix a n = true) : 0 ≤ a ∧ a < n := by
  unfold zi_ix at h
  rw [Bool.and_eq_true] at h
  exact ⟨of_decide_eq_true h.1, of_decide_eq_true h.2⟩
def zi_ne (a : Int) : Bool := !(decide (a = 0))
theorem zi_ne_ok {a : Int} (h : zi_ne a = true) : a ≠ 0 := by
  unfold zi_ne at h
  simpa using h
/-- a boolean -/
def zi_bo (a : Int) : Bool := decide (0 ≤ a) && decide (a ≤ 1)
theorem zi_bo_ok {a : Int} (h : zi_bo a = true) : 0 ≤ a ∧ a ≤ 1 := by
  unfold zi_bo at h
  rw [Bool.and_eq_true] at h
  exact ⟨of_decide_eq_true h.1, of_decide_eq_true h.2⟩
theorem zi_bind {α β : Type} {x : Option α} {f : α → Option β} {o : β} (h : x.bind f = some o) : ∃ a, x = some a ∧ f a = some o := by
  cases x with
  | none => cases h
  | some a => exact ⟨a, rfl, h⟩
/-- a long on the stack -/
theorem zv_w_l {A : Nat → Nat} {n : Nat} {w : Value} (h : zv_w A (5000 + n) w) : w = .long (Int64.ofNat n) := by
  unfold zv_w at h
  have e : Nat.blt (5000 + n) 5000 = false := by
    cases hb : Nat.blt (5000 + n) 5000 with
    | false => rfl
    | true => have := z_blt hb; omega
  rw [e] at h
  have h : w = .long (Int64.ofNat (5000 + n - 5000)) := h
  rw [h, Nat.add_sub_cancel_left]
theorem zv_w_lm {A : Nat → Nat} {n : Nat} : zv_w A (5000 + n) (.long (Int64.ofNat n)) := by
  unfold zv_w
  have e : Nat.blt (5000 + n) 5000 = false := by
    cases hb : Nat.blt (5000 + n) 5000 with
    | false => rfl
    | true => have := z_blt hb; omega
  rw [e]
  show Value.long (Int64.ofNat n) = .long (Int64.ofNat (5000 + n - 5000))
  rw [Nat.add_sub_cancel_left]
def zi_lshl (a : Nat) (k : Int) : Nat := (Int64.ofNat a <<< ((Int32.ofInt k).toInt64 &&& 63)).toBitVec.toNat
def zi_lor (a b : Nat) : Nat := (Int64.ofNat a ||| Int64.ofNat b).toBitVec.toNat
def zi_lcmp (a b : Nat) : Int := (lg_cmp (Int64.ofNat a) (Int64.ofNat b)).toInt
theorem zi_l64 (x : Int64) : Int64.ofNat x.toBitVec.toNat = x := by
  show (⟨⟨BitVec.ofNat 64 x.toBitVec.toNat⟩⟩ : Int64) = x
  rw [BitVec.ofNat_toNat, BitVec.setWidth_eq]
  rfl
section ZVFUN
variable {cl : List vw_C} {FT : Nat → Nat → FieldType} {KXf : (Nat → Nat) → Nat → State → Heap → Prop} {TBL : List Cond} {MT : List zM} {y : zNL} {mm : zM} {K : zK} {rm : Nat × Nat} {good : Nat → List zNV → List zNV → List zNV → List (Int → Int) → Prop}
variable {pc : Nat} {L S : List zNV} {F : List zNV} {G : List (Int → Int)}
theorem zv_andw (hB : zv_B cl FT KXf TBL MT y mm K rm good) {a b : Int} (hd : decode mm.2.1 pc = .ok (.iand, 1)) (k : good (pc + 1) L (.inl (zi_and a b) :: S) F G) : good pc L (.inl b :: .inl a :: S) F G :=
  zv_bin hB hd rfl fun u v hu hv => by
    have e1 : Int32.ofInt a = u := by rw [← hu]; exact Int32.ofInt_toInt u
    have e2 : Int32.ofInt b = v := by rw [← hv]; exact Int32.ofInt_toInt v
    unfold zi_and zi_ev at k
    rw [e1, e2] at k
    exact k
theorem zv_orw (hB : zv_B cl FT KXf TBL MT y mm K rm good) {a b : Int} (hd : decode mm.2.1 pc = .ok (.ior, 1)) (k : good (pc + 1) L (.inl (zi_or a b) :: S) F G) : good pc L (.inl b :: .inl a :: S) F G :=
  zv_bin hB hd rfl fun u v hu hv => by
    have e1 : Int32.ofInt a = u := by rw [← hu]; exact Int32.ofInt_toInt u
    have e2 : Int32.ofInt b = v := by rw [← hv]; exact Int32.ofInt_toInt v
    unfold zi_or zi_ev at k
    rw [e1, e2] at k
    exact k
theorem zv_xorw (hB : zv_B cl FT KXf TBL MT y mm K rm good) {a b : Int} (hd : decode mm.2.1 pc = .ok (.ixor, 1)) (k : good (pc + 1) L (.inl (zi_xor a b) :: S) F G) : good pc L (.inl b :: .inl a :: S) F G :=
  zv_bin hB hd rfl fun u v hu hv => by
    have e1 : Int32.ofInt a = u := by rw [← hu]; exact Int32.ofInt_toInt u
    have e2 : Int32.ofInt b = v := by rw [← hv]; exact Int32.ofInt_toInt v
    unfold zi_xor zi_ev at k
    rw [e1, e2] at k
    exact k
theorem zv_shlw (hB : zv_B cl FT KXf TBL MT y mm K rm good) {a b : Int} (hd : decode mm.2.1 pc = .ok (.ishl, 1)) (k : good (pc + 1) L (.inl (zi_shl a b) :: S) F G) : good pc L (.inl b :: .inl a :: S) F G :=
  zv_bin hB hd rfl fun u v hu hv => by
    have e1 : Int32.ofInt a = u := by rw [← hu]; exact Int32.ofInt_toInt u
    have e2 : Int32.ofInt b = v := by rw [← hv]; exact Int32.ofInt_toInt v
    unfold zi_shl zi_ev at k
    rw [e1, e2] at k
    exact k
theorem zv_shrw (hB : zv_B cl FT KXf TBL MT y mm K rm good) {a b : Int} (hd : decode mm.2.1 pc = .ok (.ishr, 1)) (k : good (pc + 1) L (.inl (zi_shr a b) :: S) F G) : good pc L (.inl b :: .inl a :: S) F G :=
  zv_bin hB hd rfl fun u v hu hv => by
    have e1 : Int32.ofInt a = u := by rw [← hu]; exact Int32.ofInt_toInt u
    have e2 : Int32.ofInt b = v := by rw [← hv]; exact Int32.ofInt_toInt v
    unfold zi_shr zi_ev at k
    rw [e1, e2] at k
    exact k
theorem zv_ushw (hB : zv_B cl FT KXf TBL MT y mm K rm good) {a b : Int} (hd : decode mm.2.1 pc = .ok (.iushr, 1)) (k : good (pc + 1) L (.inl (zi_ush a b) :: S) F G) : good pc L (.inl b :: .inl a :: S) F G := by
  obtain ⟨p, l, e, R, s, m, args, below, meth, c, Q, OB, D, DA, sz, A, H0, Ts, cells, slots, ⟨hx, hb, hml, hD, hKS⟩, ⟨hsz, hXp, hX, -⟩, ⟨hwf, hinj, hge, hOB⟩, hg⟩ := hB
  refine (hg _ _ _ _ _).mpr fun H locs ls stk h1 h2 h3 h4 h5 => ?_
  obtain ⟨w, st, rfl, ⟨v, rfl, hv⟩, w2, st2, rfl, ⟨u, rfl, hu⟩, h6⟩ := h5
  have e1 : Int32.ofInt a = u := by rw [← hu]; exact Int32.ofInt_toInt u
  have e2 : Int32.ofInt b = v := by rw [← hv]; exact Int32.ofInt_toInt v
  unfold zi_ush zi_ev at k
  rw [e1, e2] at k
  exact lv_iushr hx hb hd rfl ((hg _ _ _ _ _).mp k H locs ls _ h1 h2 h3 h4 ⟨_, _, rfl, ⟨_, rfl, rfl⟩, h6⟩)
theorem zv_divw (hB : zv_B cl FT KXf TBL MT y mm K rm good) {a b : Int} (hd : decode mm.2.1 pc = .ok (.idiv, 1)) (hb0 : b ≠ 0) (k : good (pc + 1) L (.inl (zi_div a b) :: S) F G) : good pc L (.inl b :: .inl a :: S) F G :=
  zv_bin0 hB hd rfl hb0 fun u v hu hv => by
    have e1 : Int32.ofInt a = u := by rw [← hu]; exact Int32.ofInt_toInt u
    have e2 : Int32.ofInt b = v := by rw [← hv]; exact Int32.ofInt_toInt v
    unfold zi_div zi_ev at k
    rw [e1, e2] at k
    exact k
theorem zv_remw (hB : zv_B cl FT KXf TBL MT y mm K rm good) {a b : Int} (hd : decode mm.2.1 pc = .ok (.irem, 1)) (hb0 : b ≠ 0) (k : good (pc + 1) L (.inl (zi_rem a b) :: S) F G) : good pc L (.inl b :: .inl a :: S) F G :=
  zv_bin0 hB hd rfl hb0 fun u v hu hv => by
    have e1 : Int32.ofInt a = u := by rw [← hu]; exact Int32.ofInt_toInt u
    have e2 : Int32.ofInt b = v := by rw [← hv]; exact Int32.ofInt_toInt v
    unfold zi_rem zi_ev at k
    rw [e1, e2] at k
    exact k
theorem zv_addw (hB : zv_B cl FT KXf TBL MT y mm K rm good) {a b : Int} (hd : decode mm.2.1 pc = .ok (.iadd, 1)) (k : good (pc + 1) L (.inl (zi_w (a + b)) :: S) F G) : good pc L (.inl b :: .inl a :: S) F G :=
  zv_bin hB hd rfl fun u v hu hv => by
    have e : (u + v).toInt = zi_w (a + b) := by rw [Int32.toInt_add, hu, hv]; rfl
    show good _ _ (.inl (u + v).toInt :: _) _ _
    rw [e]; exact k
theorem zv_subw (hB : zv_B cl FT KXf TBL MT y mm K rm good) {a b : Int} (hd : decode mm.2.1 pc = .ok (.isub, 1)) (k : good (pc + 1) L (.inl (zi_w (a - b)) :: S) F G) : good pc L (.inl b :: .inl a :: S) F G :=
  zv_bin hB hd rfl fun u v hu hv => by
    have e : (u - v).toInt = zi_w (a - b) := by rw [Int32.toInt_sub, hu, hv]; rfl
    show good _ _ (.inl (u - v).toInt :: _) _ _
    rw [e]; exact k
theorem zv_mulw (hB : zv_B cl FT KXf TBL MT y mm K rm good) {a b : Int} (hd : decode mm.2.1 pc = .ok (.imul, 1)) (k : good (pc + 1) L (.inl (zi_w (a * b)) :: S) F G) : good pc L (.inl b :: .inl a :: S) F G :=
  zv_bin hB hd rfl fun u v hu hv => by
    have e : (u * v).toInt = zi_w (a * b) := by rw [Int32.toInt_mul, hu, hv]; rfl
    show good _ _ (.inl (u * v).toInt :: _) _ _
    rw [e]; exact k
theorem zv_negw (hB : zv_B cl FT KXf TBL MT y mm K rm good) {a : Int} (hd : decode mm.2.1 pc = .ok (.ineg, 1)) (k : good (pc + 1) L (.inl (zi_w (-a)) :: S) F G) : good pc L (.inl a :: S) F G :=
  zv_neg hB hd fun u hu => by
    have e : (-u).toInt = zi_w (-a) := by rw [Int32.toInt_neg, hu]; rfl
    rw [e]; exact k
theorem zv_i2b (hB : zv_B cl FT KXf TBL MT y mm K rm good) {a : Int} (hd : decode mm.2.1 pc = .ok (.i2b, 1)) (k : good (pc + 1) L (.inl (zi_by a) :: S) F G) : good pc L (.inl a :: S) F G := by
  obtain ⟨p, l, e, R, s, m, args, below, meth, c, Q, OB, D, DA, sz, A, H0, Ts, cells, slots, ⟨hx, hb, hml, hD, hKS⟩, ⟨hsz, hXp, hX, -⟩, ⟨hwf, hinj, hge, hOB⟩, hg⟩ := hB
  refine (hg _ _ _ _ _).mpr fun H locs ls stk h1 h2 h3 h4 h5 => ?_
  obtain ⟨w, st, rfl, ⟨x, rfl, hx2⟩, h6⟩ := h5
  have e1 : Int32.ofInt a = x := by rw [← hx2]; exact Int32.ofInt_toInt x
  unfold zi_by at k
  rw [e1] at k
  exact lv_i2b hx hb hd rfl ((hg _ _ _ _ _).mp k H locs ls _ h1 h2 h3 h4 ⟨_, _, rfl, ⟨_, rfl, rfl⟩, h6⟩)
theorem zv_i2c (hB : zv_B cl FT KXf TBL MT y mm K rm good) {a : Int} (hd : decode mm.2.1 pc = .ok (.i2c, 1)) (k : good (pc + 1) L (.inl (zi_ch a) :: S) F G) : good pc L (.inl a :: S) F G := by
  obtain ⟨p, l, e, R, s, m, args, below, meth, c, Q, OB, D, DA, sz, A, H0, Ts, cells, slots, ⟨hx, hb, hml, hD, hKS⟩, ⟨hsz, hXp, hX, -⟩, ⟨hwf, hinj, hge, hOB⟩, hg⟩ := hB
  refine (hg _ _ _ _ _).mpr fun H locs ls stk h1 h2 h3 h4 h5 => ?_
  obtain ⟨w, st, rfl, ⟨x, rfl, hx2⟩, h6⟩ := h5
  have e1 : Int32.ofInt a = x := by rw [← hx2]; exact Int32.ofInt_toInt x
  unfold zi_ch at k
  rw [e1] at k
  exact lv_i2c hx hb hd rfl ((hg _ _ _ _ _).mp k H locs ls _ h1 h2 h3 h4 ⟨_, _, rfl, ⟨_, rfl, rfl⟩, h6⟩)
theorem zv_iincw (hB : zv_B cl FT KXf TBL MT y mm K rm good) {i : Nat} {v n : Int} (hd : decode mm.2.1 pc = .ok (.iinc i n, 3)) (hn : (Nat.blt i mm.2.2.1 && z_noov n n) = true) (hl : zv_l L i = some (.inl v)) (k : good (pc + 3) (zv_s L i (.inl (zi_w (v + n)))) S F G) : good pc L S F G := by
  obtain ⟨p, l, e, R, s, m, args, below, meth, c, Q, OB, D, DA, sz, A, H0, Ts, cells, slots, ⟨hx, hb, hml, hD, hKS⟩, -, -, hg⟩ := hB
  rw [Bool.and_eq_true] at hn
  obtain ⟨q1, q2⟩ := z_noov_ok hn.2
  refine (hg _ _ _ _ _).mpr fun H locs ls stk g1 g2 g3 h4 h5 => ?_
  obtain ⟨lv, a1, a2, a3⟩ := h4
  obtain ⟨w, ⟨x, rfl, hv⟩, a4⟩ := a3 i _ hl trivial
  obtain ⟨j, hj⟩ := List.getElem?_of_mem a4
  have hx2 : (x + Int32.ofInt n).toInt = zi_w (v + n) := by
    rw [Int32.toInt_add, Int32.toInt_ofInt_of_le (by omega) (by omega), hv]; rfl
  exact lv_iinc hx hb hd a1 hj rfl (z_blt hn.1) rfl fun ls' h => (hg _ _ _ _ _).mp k H locs ls' stk g1 g2 g3 (zv_lv_set (v := .inl (zi_w (v + n))) (w := .inl v) rfl a2 a3 ⟨_, rfl, hx2⟩ hl h) h5
def zv_sta (ins : Instr) (len : Nat) : Option Nat := match ins with
  | .astore i => cond (Nat.beq len 2) (some i) none
  | .astore_n i => cond (Nat.beq len 1) (some i.val) none
  | _ => none
theorem zv_ast (hB : zv_B cl FT KXf TBL MT y mm K rm good) {ins : Instr} {len i v : Nat} {u : zNV} (hd : decode mm.2.1 pc = .ok (ins, len)) (hv5 : Nat.blt v 5000 = true) (hc : zv_sta ins len = some i) (hn : Nat.blt i mm.2.2.1 = true) (hl : zv_l L i = some u) (k : good (pc + len) (zv_s L i (.inr v)) S F G) : good pc L (.inr v :: S) F G := by
  obtain ⟨p, l, e, R, s, m, args, below, meth, c, Q, OB, D, DA, sz, A, H0, Ts, cells, slots, ⟨hx, hb, hml, hD, hKS⟩, ⟨hsz, hXp, hX, -⟩, ⟨hwf, hinj, hge, hOB⟩, hg⟩ := hB
  refine (hg _ _ _ _ _).mpr fun H locs ls stk h1 h2 h3 h4 h5 => ?_
  obtain ⟨w, st, rfl, hw, h6⟩ := h5
  have hw : w = .ref (A v) := zv_w_r hw (z_blt hv5)
  subst hw
  obtain ⟨lv, a1, a2, a3⟩ := h4
  have kk := fun (ls' : Array Slot) (h : lv_has ls' mm.2.2.1 ((i, Value.ref (A v)) :: lv.filter (fun q => !(q.1 == i) && !(q.1 + 1 == i && q.2.category == 2)))) => (hg _ _ _ _ _).mp k H locs ls' _ h1 h2 h3 (zv_lv_set (v := .inr v) (w := u) hv5 a2 a3 (zv_w_mk (z_blt hv5)) hl h) h6
  unfold zv_sta at hc
  split at hc
  · obtain ⟨c1, rfl⟩ := z_cond hc
    rw [z_beq c1] at hd kk
    exact lv_astore hx hb hd a1 (z_blt hn) rfl kk
  · obtain ⟨c1, rfl⟩ := z_cond hc
    rw [z_beq c1] at hd kk
    exact lv_astore_n hx hb hd rfl a1 (z_blt hn) rfl kk
  · cases hc
theorem zv_alen (hB : zv_B cl FT KXf TBL MT y mm K rm good) {c k0 n j : Nat} {v : Int} (hd : decode mm.2.1 pc = .ok (.arraylength, 1)) (ha : zv_ar y c = some (k0, n, j)) (hk : Nat.ble k0 2 = true) (hn : Nat.blt n 2147483648 = true) (hv : (n : Int) = v) (k : good (pc + 1) L (.inl v :: S) F G) : good pc L (.inr c :: S) F G := by
  obtain ⟨p, l, e, R, s, m, args, below, meth, c, Q, OB, D, DA, sz, A, H0, Ts, cells, slots, ⟨hx, hb, hml, hD, hKS⟩, ⟨hsz, hXp, hX, -⟩, ⟨hwf, hinj, hge, hOB⟩, hg⟩ := hB
  refine (hg _ _ _ _ _).mpr fun H locs ls stk h1 h2 h3 h4 h5 => ?_
  obtain ⟨w, st, rfl, hw, h6⟩ := h5
  have hw : w = .ref (A _) := zv_w_r hw (zv_ar_lt hwf ha)
  subst hw
  obtain ⟨f, g2, x1, x2, x3⟩ := h1.2.2.2 _ (zv_ar_ok ha)
  have hnn : n < 2147483648 := z_blt hn
  subst hv
  exact W.alen (n := Int32.ofNat n) hx hb x1 (z_isarr hD (k := k0) (Nat.lt_succ_of_le (Nat.le_of_ble_eq_true hk)) n f) (by rw [arrV_size]) rfl rfl hd ((hg _ _ _ _ _).mp k H locs ls _ h1 h2 h3 h4 ⟨_, _, rfl, ⟨_, rfl, Int32.toInt_ofNat_of_lt (by omega)⟩, h6⟩)
theorem zv_bast (hB : zv_B cl FT KXf TBL MT y mm K rm good) {c n j : Nat} {a v : Int} {g : Int → Int} (hd : decode mm.2.1 pc = .ok (.bastore, 1)) (ha : zv_ar y c = some (1, n, j)) (hl : zv_l G j = some g) (ha1 : 0 ≤ a) (ha2 : a < n) (k : good (pc + 1) L S F (zv_s G j (zv_up g a (zi_by v)))) : good pc L (.inl v :: .inl a :: .inr c :: S) F G := by
  obtain ⟨p, l, e, R, s, m, args, below, meth, cc, Q, OB, D, DA, sz, A, H0, Ts, cells, slots, ⟨hx, hb, hml, hD, hKS⟩, ⟨hsz, hXp, hX, -⟩, ⟨hwf, hinj, hge, hOB⟩, hg⟩ := hB
  refine (hg _ _ _ _ _).mpr fun H locs ls stk h1 h2 h3 h4 h5 => ?_
  obtain ⟨w0, st0, rfl, ⟨u, rfl, rfl⟩, w, st, rfl, ⟨x, rfl, rfl⟩, w2, st2, rfl, hw, h6⟩ := h5
  have hw : w2 = .ref (A _) := zv_w_r hw (zv_ar_lt hwf ha)
  subst hw
  have hm := zv_ar_ok ha
  obtain ⟨f, g2, x1, x2, x3⟩ := h1.2.2.2 _ hm
  rw [hl] at x2
  cases x2
  obtain ⟨b1, b2⟩ := zv_ix ha1 ha2
  obtain ⟨a1, a2, a3, a4⟩ := zv_wfA hwf hm
  have a1 : c < n_N y := a1
  refine W.bast hx hb x1 (z_isarr hD (k := 1) (by omega) n f) (fun q => by cases q) (by rw [arrV_size]; exact b1) rfl rfl hd fun H1 e1 e2 e3 => ?_
  have e1' : H1[A c]? = some (arrV (DA 1) n (updV f x.toNatClampNeg (.int u.toInt8.toInt32))) := by rw [e1, arrV_store]; rfl
  have hne : ∀ b, b < n_N y → b ≠ c → A b ≠ A c := fun b hb1 hb2 hb3 => hb2 (hinj _ _ hb1 a1 hb3)
  refine (hg _ _ _ _ _).mp k H1 _ ls st2 ⟨fun q hq => ?_, fun q hq => ?_, fun q hq => ?_, fun q hq => ?_⟩ (zv_frm_tr h2 ⟨e2, fun b hb1 => e3 b (fun e => hb1 c a1 e.symm), fun q hq r' k2 w hr hk2 hk3 hk4 => ?_⟩) (zv_S_set (A := A) h3 (hge _ a1) e2 e3) h4 h6
  · obtain ⟨w1, w2, w3⟩ := zv_wfO hwf hq
    obtain ⟨r', V', y1, y2⟩ := h1.1 q hq
    exact ⟨r', V', y1, y2.kept (e3 _ (hne _ w1 (w2 _ hm)))⟩
  · obtain ⟨r', x', f', y1, y2, y3, y4⟩ := h1.2.1 q hq
    exact ⟨r', x', f', y1, y2, z_sl_kept y3 (e3 _ (hne _ (zv_wfIn hwf hq).1 (fun e => a3 _ hq e.symm))), y4⟩
  · obtain ⟨r', y1, y2, y3⟩ := h1.2.2.1 q hq
    exact ⟨r', y1, y2, z_sl_kept y3 (e3 _ (hne _ (zv_wfR hwf hq).1 (fun e => a4 _ hq e.symm)))⟩
  · obtain ⟨f2, g2, y1, y2, y3⟩ := h1.2.2.2 q hq
    obtain ⟨w1, w2, w3, w4⟩ := zv_wfA hwf hq
    by_cases e : q.1 = c
    · obtain ⟨v1, v2⟩ := a2 q hq
      obtain ⟨v3, v4⟩ := v2 e.symm
      have v5 : j = q.2.2.2 := v1.mpr e.symm
      have v3 : 1 = q.2.1 := v3
      have v4 : n = q.2.2.1 := v4
      refine ⟨_, _, by rw [e, ← v3, ← v4]; exact e1', by rw [← v5]; exact zv_ls_eq hl, fun i hi => ?_⟩
      rw [← v4] at hi
      rw [← v3]
      obtain ⟨z, z1, z2⟩ := x3 i hi
      by_cases ei : i = x.toInt.toNat
      · refine ⟨u.toInt8.toInt32, ?_, ?_⟩
        · rw [z_clamp, ei]; simp [updV]
        · rw [ei, Int.toNat_of_nonneg ha1, zv_up_s]; unfold zi_by; rw [Int32.ofInt_toInt]
      · refine ⟨z, ?_, ?_⟩
        · have hne2 : ¬ i = x.toNatClampNeg := ei
          simp [updV, hne2, z1]
        · rw [zv_up_n (by omega)]; exact z2
    · refine ⟨f2, g2, by rw [e3 _ (hne _ w1 e)]; exact y1, ?_, y3⟩
      rw [zv_ls_ne (fun h7 => e ((w2 _ hm).1.mp h7.symm))]
      exact y2
  · exact z_sl_kept hk4 (e3 _ (hne _ (zv_wfO hwf hq).1 ((zv_wfO hwf hq).2.1 _ hm)))
theorem zv_lcon (hB : zv_B cl FT KXf TBL MT y mm K rm good) {n : Fin 2} (hd : decode mm.2.1 pc = .ok (.lconst n, 1)) (k : good (pc + 1) L (.inr (5000 + n.val) :: S) F G) : good pc L S F G := by
  obtain ⟨p, l, e, R, s, m, args, below, meth, cc, Q, OB, D, DA, sz, A, H0, Ts, cells, slots, ⟨hx, hb, hml, hD, hKS⟩, ⟨hsz, hXp, hX, -⟩, ⟨hwf, hinj, hge, hOB⟩, hg⟩ := hB
  refine (hg _ _ _ _ _).mpr fun H locs ls stk h1 h2 h3 h4 h5 => ?_
  exact lv_lconst hx hb hd rfl ((hg _ _ _ _ _).mp k H locs ls _ h1 h2 h3 h4 ⟨_, _, rfl, zv_w_lm, h5⟩)
theorem zv_lshlw (hB : zv_B cl FT KXf TBL MT y mm K rm good) {a : Nat} {b : Int} (hd : decode mm.2.1 pc = .ok (.lshl, 1)) (k : good (pc + 1) L (.inr (5000 + zi_lshl a b) :: S) F G) : good pc L (.inl b :: .inr (5000 + a) :: S) F G := by
  obtain ⟨p, l, e, R, s, m, args, below, meth, cc, Q, OB, D, DA, sz, A, H0, Ts, cells, slots, ⟨hx, hb, hml, hD, hKS⟩, ⟨hsz, hXp, hX, -⟩, ⟨hwf, hinj, hge, hOB⟩, hg⟩ := hB
  refine (hg _ _ _ _ _).mpr fun H locs ls stk h1 h2 h3 h4 h5 => ?_
  obtain ⟨w, st, rfl, ⟨v, rfl, hv⟩, w2, st2, rfl, hu, h6⟩ := h5
  have hu : w2 = .long (Int64.ofNat a) := zv_w_l hu
  subst hu
  have e2 : Int32.ofInt b = v := by rw [← hv]; exact Int32.ofInt_toInt v
  have hz := zv_w_lm (A := A) (n := zi_lshl a b)
  rw [show Int64.ofNat (zi_lshl a b) = Int64.ofNat a <<< (v.toInt64 &&& 63) by unfold zi_lshl; rw [zi_l64, e2]] at hz
  exact lv_lshl hx hb hd rfl ((hg _ _ _ _ _).mp k H locs ls _ h1 h2 h3 h4 ⟨_, _, rfl, hz, h6⟩)
theorem zv_lorw (hB : zv_B cl FT KXf TBL MT y mm K rm good) {a b : Nat} (hd : decode mm.2.1 pc = .ok (.lor, 1)) (k : good (pc + 1) L (.inr (5000 + zi_lor a b) :: S) F G) : good pc L (.inr (5000 + b) :: .inr (5000 + a) :: S) F G := by
  obtain ⟨p, l, e, R, s, m, args, below, meth, cc, Q, OB, D, DA, sz, A, H0, Ts, cells, slots, ⟨hx, hb, hml, hD, hKS⟩, ⟨hsz, hXp, hX, -⟩, ⟨hwf, hinj, hge, hOB⟩, hg⟩ := hB
  refine (hg _ _ _ _ _).mpr fun H locs ls stk h1 h2 h3 h4 h5 => ?_
  obtain ⟨w, st, rfl, hv, w2, st2, rfl, hu, h6⟩ := h5
  have hu : w2 = .long (Int64.ofNat a) := zv_w_l hu
  have hv : w = .long (Int64.ofNat b) := zv_w_l hv
  subst hu; subst hv
  have hz := zv_w_lm (A := A) (n := zi_lor a b)
  rw [show Int64.ofNat (zi_lor a b) = Int64.ofNat a ||| Int64.ofNat b by unfold zi_lor; rw [zi_l64]] at hz
  exact lv_lor hx hb hd ((hg _ _ _ _ _).mp k H locs ls _ h1 h2 h3 h4 ⟨_, _, rfl, hz, h6⟩)
theorem zv_lcmpw (hB : zv_B cl FT KXf TBL MT y mm K rm good) {a b : Nat} (hd : decode mm.2.1 pc = .ok (.lcmp, 1)) (k : good (pc + 1) L (.inl (zi_lcmp a b) :: S) F G) : good pc L (.inr (5000 + b) :: .inr (5000 + a) :: S) F G := by
  obtain ⟨p, l, e, R, s, m, args, below, meth, cc, Q, OB, D, DA, sz, A, H0, Ts, cells, slots, ⟨hx, hb, hml, hD, hKS⟩, ⟨hsz, hXp, hX, -⟩, ⟨hwf, hinj, hge, hOB⟩, hg⟩ := hB
  refine (hg _ _ _ _ _).mpr fun H locs ls stk h1 h2 h3 h4 h5 => ?_
  obtain ⟨w, st, rfl, hv, w2, st2, rfl, hu, h6⟩ := h5
  have hu : w2 = .long (Int64.ofNat a) := zv_w_l hu
  have hv : w = .long (Int64.ofNat b) := zv_w_l hv
  subst hu; subst hv
  exact W.lcmp hx hb hd ((hg _ _ _ _ _).mp k H locs ls _ h1 h2 h3 h4 ⟨_, _, rfl, ⟨_, rfl, rfl⟩, h6⟩)
theorem zv_lald (hB : zv_B cl FT KXf TBL MT y mm K rm good) {c n j : Nat} {a : Int} {g : Int → Int} (hd : decode mm.2.1 pc = .ok (.laload, 1)) (ha : zv_ar y c = some (2, n, j)) (hl : zv_l G j = some g) (ha1 : 0 ≤ a) (ha2 : a < n) (k : good (pc + 1) L (.inr (5000 + (g a).toNat) :: S) F G) : good pc L (.inl a :: .inr c :: S) F G := by
  obtain ⟨p, l, e, R, s, m, args, below, meth, cc, Q, OB, D, DA, sz, A, H0, Ts, cells, slots, ⟨hx, hb, hml, hD, hKS⟩, ⟨hsz, hXp, hX, -⟩, ⟨hwf, hinj, hge, hOB⟩, hg⟩ := hB
  refine (hg _ _ _ _ _).mpr fun H locs ls stk h1 h2 h3 h4 h5 => ?_
  obtain ⟨w, st, rfl, ⟨x, rfl, rfl⟩, w2, st2, rfl, hw, h6⟩ := h5
  have hw : w2 = .ref (A _) := zv_w_r hw (zv_ar_lt hwf ha)
  subst hw
  obtain ⟨f, g2, x1, x2, x3⟩ := h1.2.2.2 _ (zv_ar_ok ha)
  rw [hl] at x2
  cases x2
  obtain ⟨b1, b2⟩ := zv_ix ha1 ha2
  have v1 : f x.toInt.toNat = .long (Int64.ofNat (g ((x.toInt.toNat : Nat) : Int)).toNat) := x3 x.toInt.toNat b2
  rw [Int.toNat_of_nonneg ha1] at v1
  refine W.lald hx hb x1 (z_isarr hD (k := 2) (by omega) n f) (fun q => by cases q) (by rw [arrV_size]; exact b1) (v := .long (Int64.ofNat (g x.toInt).toNat)) (by rw [z_clamp, arrV_read _ _ b2, v1]) rfl rfl hd ?_
  exact (hg _ _ _ _ _).mp k H locs ls _ h1 h2 h3 h4 ⟨_, _, rfl, zv_w_lm, h6⟩
theorem zv_last (hB : zv_B cl FT KXf TBL MT y mm K rm good) {c n j v : Nat} {a : Int} {g : Int → Int} (hd : decode mm.2.1 pc = .ok (.lastore, 1)) (ha : zv_ar y c = some (2, n, j)) (hl : zv_l G j = some g) (ha1 : 0 ≤ a) (ha2 : a < n) (k : good (pc + 1) L S F (zv_s G j (zv_up g a (v : Int)))) : good pc L (.inr (5000 + v) :: .inl a :: .inr c :: S) F G := by
  obtain ⟨p, l, e, R, s, m, args, below, meth, cc, Q, OB, D, DA, sz, A, H0, Ts, cells, slots, ⟨hx, hb, hml, hD, hKS⟩, ⟨hsz, hXp, hX, -⟩, ⟨hwf, hinj, hge, hOB⟩, hg⟩ := hB
  refine (hg _ _ _ _ _).mpr fun H locs ls stk h1 h2 h3 h4 h5 => ?_
  obtain ⟨w0, st0, rfl, hw0, w, st, rfl, ⟨x, rfl, rfl⟩, w2, st2, rfl, hw, h6⟩ := h5
  have hw : w2 = .ref (A _) := zv_w_r hw (zv_ar_lt hwf ha)
  subst hw
  have hw0 : w0 = .long (Int64.ofNat v) := zv_w_l hw0
  subst hw0
  have hm := zv_ar_ok ha
  obtain ⟨f, g2, x1, x2, x3⟩ := h1.2.2.2 _ hm
  rw [hl] at x2
  cases x2
  obtain ⟨b1, b2⟩ := zv_ix ha1 ha2
  obtain ⟨a1, a2, a3, a4⟩ := zv_wfA hwf hm
  have a1 : c < n_N y := a1
  refine W.last hx hb x1 (z_isarr hD (k := 2) (by omega) n f) (fun q => by cases q) (by rw [arrV_size]; exact b1) rfl rfl hd fun H1 e1 e2 e3 => ?_
  have e1' : H1[A c]? = some (arrV (DA 2) n (updV f x.toNatClampNeg (.long (Int64.ofNat v)))) := by rw [e1, arrV_store]
  have hne : ∀ b, b < n_N y → b ≠ c → A b ≠ A c := fun b hb1 hb2 hb3 => hb2 (hinj _ _ hb1 a1 hb3)
  refine (hg _ _ _ _ _).mp k H1 _ ls st2 ⟨fun q hq => ?_, fun q hq => ?_, fun q hq => ?_, fun q hq => ?_⟩ (zv_frm_tr h2 ⟨e2, fun b hb1 => e3 b (fun e => hb1 c a1 e.symm), fun q hq r' k2 w hr hk2 hk3 hk4 => ?_⟩) (zv_S_set (A := A) h3 (hge _ a1) e2 e3) h4 h6
  · obtain ⟨w1, w2, w3⟩ := zv_wfO hwf hq
    obtain ⟨r', V', y1, y2⟩ := h1.1 q hq
    exact ⟨r', V', y1, y2.kept (e3 _ (hne _ w1 (w2 _ hm)))⟩
  · obtain ⟨r', x', f', y1, y2, y3, y4⟩ := h1.2.1 q hq
    exact ⟨r', x', f', y1, y2, z_sl_kept y3 (e3 _ (hne _ (zv_wfIn hwf hq).1 (fun e => a3 _ hq e.symm))), y4⟩
  · obtain ⟨r', y1, y2, y3⟩ := h1.2.2.1 q hq
    exact ⟨r', y1, y2, z_sl_kept y3 (e3 _ (hne _ (zv_wfR hwf hq).1 (fun e => a4 _ hq e.symm)))⟩
  · obtain ⟨f2, g2, y1, y2, y3⟩ := h1.2.2.2 q hq
    obtain ⟨w1, w2, w3, w4⟩ := zv_wfA hwf hq
    by_cases e : q.1 = c
    · obtain ⟨v1, v2⟩ := a2 q hq
      obtain ⟨v3, v4⟩ := v2 e.symm
      have v5 : j = q.2.2.2 := v1.mpr e.symm
      have v3 : 2 = q.2.1 := v3
      have v4 : n = q.2.2.1 := v4
      refine ⟨_, _, by rw [e, ← v3, ← v4]; exact e1', by rw [← v5]; exact zv_ls_eq hl, fun i hi => ?_⟩
      rw [← v4] at hi
      rw [← v3]
      have z1 : f i = .long (Int64.ofNat (g (i : Int)).toNat) := x3 i hi
      show updV f x.toNatClampNeg (.long (Int64.ofNat v)) i = .long (Int64.ofNat (zv_up g x.toInt (v : Int) (i : Int)).toNat)
      by_cases ei : i = x.toInt.toNat
      · rw [z_clamp, ei, Int.toNat_of_nonneg ha1, zv_up_s, Int.toNat_natCast]
        simp [updV]
      · rw [zv_up_n (by omega), ← z1]
        have hne2 : ¬ i = x.toNatClampNeg := ei
        simp [updV, hne2]
    · refine ⟨f2, g2, by rw [e3 _ (hne _ w1 e)]; exact y1, ?_, y3⟩
      rw [zv_ls_ne (fun h7 => e ((w2 _ hm).1.mp h7.symm))]
      exact y2
  · exact z_sl_kept hk4 (e3 _ (hne _ (zv_wfO hwf hq).1 ((zv_wfO hwf hq).2.1 _ hm)))
end ZVFUN
end
section
/-! A contract over some names is used over more of them. -/
def zv_rc (ρ : List Nat) (c : Nat) : Nat := match zv_l ρ c with
  | some d => d
  | none => c
def zv_rn (ρ : List Nat) (v : zNV) : zNV := match v with
  | .inl x => .inl x
  | .inr c => .inr (zv_rc ρ c)
/-- fields: place by place the same, but those that nothing is known of -/
def zv_mF (ρ : List Nat) (F : List zNV) : List Nat → List zNV → Prop
  | [], [] => True
  | j :: φ, f :: F1 => (∃ g, zv_l F j = some g ∧ (zv_is f → g = zv_rn ρ f)) ∧ zv_mF ρ F φ F1
  | _, _ => False
def zv_mG (G : List (Int → Int)) : List Nat → List (Int → Int) → Prop
  | [], [] => True
  | j :: ψ, g :: G1 => zv_l G j = some g ∧ zv_mG G ψ G1
  | _, _ => False
def zv_pF (ρ : List Nat) : List Nat → List zNV → List zNV → List zNV
  | j :: φ, F, f :: F1 => zv_pF ρ φ (zv_s F j (zv_rn ρ f)) F1
  | _, F, _ => F
def zv_pG : List Nat → List (Int → Int) → List (Int → Int) → List (Int → Int)
  | j :: ψ, G, g :: G1 => zv_pG ψ (zv_s G j g) G1
  | _, G, _ => G
def zv_nd : List Nat → Bool
  | [] => true
  | t :: L => !(L.any (fun u => Nat.beq u t)) && zv_nd L
def zv_e4 (a b : Nat × Nat × Nat × Nat) : Bool := Nat.beq a.1 b.1 && Nat.beq a.2.1 b.2.1 && (Nat.beq a.2.2.1 b.2.2.1 && Nat.beq a.2.2.2 b.2.2.2)
def zv_ek (y1 y2 : zNL) (ρ φ ψ : List Nat) : Bool :=
  (Nat.beq ρ.length (n_N y1) && Nat.ble ρ.length 900 && zv_nd ρ && (zv_nd φ && zv_nd ψ) && ρ.all (fun d => Nat.blt d (n_N y2))) &&
  ((n_O y1).all (fun q => (n_O y2).any (fun u => Nat.beq u.1 (zv_rc ρ q.1) && Nat.beq u.2 q.2)) &&
   (n_I y1).all (fun q => Nat.blt q.2.2.2 φ.length && (n_I y2).any (fun u => zv_e4 u (zv_rc ρ q.1, q.2.1, q.2.2.1, zv_rc φ q.2.2.2))) &&
   (n_R y1).all (fun q => (n_R y2).any (fun u => zv_e4 u (zv_rc ρ q.1, q.2.1, q.2.2.1, zv_rc ρ q.2.2.2))) &&
   (n_A y1).all (fun q => Nat.blt q.2.2.2 ψ.length && (n_A y2).any (fun u => zv_e4 u (zv_rc ρ q.1, q.2.1, q.2.2.1, zv_rc ψ q.2.2.2)))) &&
  ((List.range ρ.length).all (fun c => (n_O y1).any (fun q => Nat.beq q.1 c) || (n_A y1).any (fun q => Nat.beq q.1 c)) &&
   (List.range φ.length).all (fun j => (n_I y1).any (fun q => Nat.beq q.2.2.2 j)) && (List.range ψ.length).all (fun j => (n_A y1).any (fun q => Nat.beq q.2.2.2 j)))
theorem zv_nd_ok : ∀ {L : List Nat} {i j t : Nat}, zv_nd L = true → zv_l L i = some t → zv_l L j = some t → i = j
  | [], i, j, t, _, h, _ => by cases h
  | x :: L, i, j, t, h, h1, h2 => by
    unfold zv_nd at h
    rw [Bool.and_eq_true] at h
    have hx : ∀ (k : Nat), zv_l L k = some x → False := by
      intro k hk
      have h3 : L.any (fun u => Nat.beq u x) = false := by simpa using h.1
      rw [zv_l_get] at hk
      exact List.any_eq_false.mp h3 x (List.mem_of_getElem? hk) (Nat.beq_refl _)
    match i, j, h1, h2 with
    | 0, 0, _, _ => rfl
    | 0, j + 1, h1, h2 =>
      have e : x = t := Option.some.inj h1
      subst e
      exact absurd h2 (hx j)
    | i + 1, 0, h1, h2 =>
      have e : x = t := Option.some.inj h2
      subst e
      exact absurd h1 (hx i)
    | i + 1, j + 1, h1, h2 => rw [zv_nd_ok (L := L) (i := i) (j := j) h.2 h1 h2]
theorem zv_l_lt {α : Type} {L : List α} {i : Nat} (h : i < L.length) : ∃ v, zv_l L i = some v := by
  rw [zv_l_get]
  exact ⟨_, List.getElem?_eq_getElem h⟩
theorem zv_l_len {α : Type} {L : List α} {i : Nat} {v : α} (h : zv_l L i = some v) : i < L.length := by
  rw [zv_l_get] at h
  exact (List.getElem?_eq_some_iff.mp h).1
theorem zv_rc_of {ρ : List Nat} {c d : Nat} (h : zv_l ρ c = some d) : zv_rc ρ c = d := by unfold zv_rc; rw [h]
theorem zv_e4_ok {a b : Nat × Nat × Nat × Nat} (h : zv_e4 a b = true) : a = b := by
  unfold zv_e4 at h
  simp only [Bool.and_eq_true] at h
  obtain ⟨a1, a2, a3, a4⟩ := a
  obtain ⟨b1, b2, b3, b4⟩ := b
  have e1 : a1 = b1 := z_beq h.1.1
  have e2 : a2 = b2 := z_beq h.1.2
  have e3 : a3 = b3 := z_beq h.2.1
  have e4 : a4 = b4 := z_beq h.2.2
  rw [e1, e2, e3, e4]
theorem zv_mF_at {ρ : List Nat} {F : List zNV} : ∀ {φ : List Nat} {F1 : List zNV}, zv_mF ρ F φ F1 → ∀ {j k : Nat}, zv_l φ j = some k → ∃ f g, zv_l F1 j = some f ∧ zv_l F k = some g ∧ (zv_is f → g = zv_rn ρ f)
  | [], _, _, j, k, h => by cases h
  | _ :: _, [], h, _, _, _ => absurd h (fun h => h)
  | i :: φ, f :: F1, h, 0, k, hk => by
    have e : i = k := Option.some.inj hk
    subst e
    obtain ⟨g, g1, g2⟩ := h.1
    exact ⟨f, g, rfl, g1, g2⟩
  | i :: φ, f :: F1, h, j + 1, k, hk => zv_mF_at (φ := φ) (F1 := F1) h.2 (j := j) hk
theorem zv_mG_at {G : List (Int → Int)} : ∀ {ψ : List Nat} {G1 : List (Int → Int)}, zv_mG G ψ G1 → ∀ {j k : Nat}, zv_l ψ j = some k → ∃ g, zv_l G1 j = some g ∧ zv_l G k = some g
  | [], _, _, j, k, h => by cases h
  | _ :: _, [], h, _, _, _ => absurd h (fun h => h)
  | i :: ψ, g :: G1, h, 0, k, hk => by
    have e : i = k := Option.some.inj hk
    subst e
    exact ⟨g, rfl, h.1⟩
  | i :: ψ, g :: G1, h, j + 1, k, hk => zv_mG_at (ψ := ψ) (G1 := G1) h.2 (j := j) hk
theorem zv_pF_ne {ρ : List Nat} : ∀ {φ : List Nat} {F F1 : List zNV} {k : Nat}, (∀ j, zv_l φ j ≠ some k) → zv_l (zv_pF ρ φ F F1) k = zv_l F k
  | [], F, F1, k, _ => rfl
  | i :: φ, F, [], k, _ => rfl
  | i :: φ, F, f :: F1, k, h => by
    show zv_l (zv_pF ρ φ (zv_s F i (zv_rn ρ f)) F1) k = _
    rw [zv_pF_ne (fun j => h (j + 1))]
    exact zv_ls_ne (fun e => h 0 (by rw [← e]; rfl))
theorem zv_pF_at {ρ : List Nat} : ∀ {φ : List Nat} {F F1 : List zNV} {j k : Nat} {f : zNV}, zv_nd φ = true → zv_l φ j = some k → zv_l F1 j = some f → (∃ g, zv_l F k = some g) → zv_l (zv_pF ρ φ F F1) k = some (zv_rn ρ f)
  | [], F, F1, j, k, f, _, h, _, _ => by cases h
  | i :: φ, F, [], j, k, f, _, _, h, _ => by cases h
  | i :: φ, F, f0 :: F1, 0, k, f, hn, hk, hf, ⟨g, hg⟩ => by
    have e : i = k := Option.some.inj hk
    have e2 : f0 = f := Option.some.inj hf
    subst e; subst e2
    show zv_l (zv_pF ρ φ (zv_s F i (zv_rn ρ f0)) F1) i = _
    rw [zv_pF_ne (fun j h => by have := zv_nd_ok (L := i :: φ) (i := 0) (j := j + 1) hn rfl h; omega)]
    exact zv_ls_eq hg
  | i :: φ, F, f0 :: F1, j + 1, k, f, hn, hk, hf, ⟨g, hg⟩ => by
    have hne : i ≠ k := fun e => by have := zv_nd_ok (L := i :: φ) (i := 0) (j := j + 1) hn (by rw [e]; rfl) hk; omega
    have hn2 : zv_nd φ = true := by unfold zv_nd at hn; rw [Bool.and_eq_true] at hn; exact hn.2
    exact zv_pF_at (φ := φ) (j := j) hn2 hk hf ⟨g, by rw [zv_ls_ne hne]; exact hg⟩
theorem zv_pG_ne : ∀ {ψ : List Nat} {G G1 : List (Int → Int)} {k : Nat}, (∀ j, zv_l ψ j ≠ some k) → zv_l (zv_pG ψ G G1) k = zv_l G k
  | [], G, G1, k, _ => rfl
  | i :: ψ, G, [], k, _ => rfl
  | i :: ψ, G, g :: G1, k, h => by
    show zv_l (zv_pG ψ (zv_s G i g) G1) k = _
    rw [zv_pG_ne (fun j => h (j + 1))]
    exact zv_ls_ne (fun e => h 0 (by rw [← e]; rfl))
theorem zv_pG_at : ∀ {ψ : List Nat} {G G1 : List (Int → Int)} {j k : Nat} {g : Int → Int}, zv_nd ψ = true → zv_l ψ j = some k → zv_l G1 j = some g → (∃ g, zv_l G k = some g) → zv_l (zv_pG ψ G G1) k = some g
  | [], G, G1, j, k, f, _, h, _, _ => by cases h
  | i :: ψ, G, [], j, k, f, _, _, h, _ => by cases h
  | i :: ψ, G, f0 :: G1, 0, k, f, hn, hk, hf, ⟨g, hg⟩ => by
    have e : i = k := Option.some.inj hk
    have e2 : f0 = f := Option.some.inj hf
    subst e; subst e2
    show zv_l (zv_pG ψ (zv_s G i f0) G1) i = _
    rw [zv_pG_ne (fun j h => by have := zv_nd_ok (L := i :: ψ) (i := 0) (j := j + 1) hn rfl h; omega)]
    exact zv_ls_eq hg
  | i :: ψ, G, f0 :: G1, j + 1, k, f, hn, hk, hf, ⟨g, hg⟩ => by
    have hne : i ≠ k := fun e => by have := zv_nd_ok (L := i :: ψ) (i := 0) (j := j + 1) hn (by rw [e]; rfl) hk; omega
    have hn2 : zv_nd ψ = true := by unfold zv_nd at hn; rw [Bool.and_eq_true] at hn; exact hn.2
    exact zv_pG_at (ψ := ψ) (j := j) hn2 hk hf ⟨g, by rw [zv_ls_ne hne]; exact hg⟩
end
section
/-! A contract over some names is used over more of them: the theorem. -/
theorem zv_wfOO {y : zNL} (h : zv_wf y = true) {q u : Nat × Nat} (hq : q ∈ n_O y) (hu : u ∈ n_O y) (e : q.1 = u.1) : q.2 = u.2 := by
  have h := (zv_wf0_of h).2
  unfold zv_wf0 at h
  simp only [Bool.and_eq_true] at h
  have h1 := List.all_eq_true.mp h.1.2 q hq
  simp only [Bool.and_eq_true] at h1
  have h2 := List.all_eq_true.mp h1.1.1.2 u hu
  simp only [Bool.or_eq_true, Bool.not_eq_true'] at h2
  rcases h2 with h3 | h3
  · rw [e, Nat.beq_refl] at h3; cases h3
  · exact z_beq h3
theorem zv_w_rn {ρ : List Nat} {A : Nat → Nat} {c : Nat} {w : Value} (hr : ρ.length ≤ 900) (hl : ∀ d ∈ ρ, d < 900) (h : zv_w A (zv_rc ρ c) w) : zv_w (fun c => A (zv_rc ρ c)) c w := by
  by_cases hc : c < 5000
  · have hc2 : zv_rc ρ c < 5000 := by
      unfold zv_rc
      cases e : zv_l ρ c with
      | none => exact hc
      | some d =>
        rw [zv_l_get] at e
        have := hl d (List.mem_of_getElem? e)
        show d < 5000
        omega
    rw [zv_w_r h hc2]
    exact zv_w_mk (A := fun c => A (zv_rc ρ c)) hc
  · have e : zv_rc ρ c = c := by
      unfold zv_rc
      rw [zv_l_get, List.getElem?_eq_none (by omega)]
    rw [e] at h
    have hb : Nat.blt c 5000 = false := by
      cases hb : Nat.blt c 5000 with
      | false => rfl
      | true => exact absurd (z_blt hb) hc
    unfold zv_w at h ⊢
    rw [hb] at h ⊢
    exact h
theorem zv_st_rn {ρ : List Nat} {A : Nat → Nat} (hr : ρ.length ≤ 900) (hl : ∀ d ∈ ρ, d < 900) : ∀ {va : List zNV} {vals : List Value}, zv_st A (va.map (zv_rn ρ)) vals → zv_st (fun c => A (zv_rc ρ c)) va vals
  | [], _, h => h
  | .inl x :: va, _, ⟨w, k', e, hv, h⟩ => ⟨w, k', e, hv, zv_st_rn hr hl (va := va) h⟩
  | .inr c :: va, _, ⟨w, k', e, hv, h⟩ => ⟨w, k', e, zv_w_rn hr hl hv, zv_st_rn hr hl (va := va) h⟩
def zv_Fn (TBL : List Cond) (cl : List vw_C) (KXf : (Nat → Nat) → Nat → State → Heap → Prop) (y : zNL) (mm : zM) (rm : Nat × Nat) (va F : List zNV) (G : List (Int → Int)) (r : Option Int) (F' : List zNV) (G' : List (Int → Int)) : Prop :=
  zv_OK TBL cl KXf y mm rm (fun a b c => a = va ∧ b = F ∧ c = G) (fun _ _ _ q b c => q = r ∧ b = F' ∧ c = G')
def zv_ek2 (y2 : zNL) : Bool := Nat.ble (n_N y2) 900 && (n_R y2).all (fun q => (n_O y2).any (fun u => Nat.beq u.1 q.1 && Nat.beq u.2 q.2.1))
section ZVEMB
variable {y1 y2 : zNL} {ρ φ ψ : List Nat}
theorem zv_any4 {L : List (Nat × Nat × Nat × Nat)} {b : Nat × Nat × Nat × Nat} (h : L.any (fun u => zv_e4 u b) = true) : b ∈ L := by
  obtain ⟨u, hu, h2⟩ := List.any_eq_true.mp h
  rw [← zv_e4_ok h2]; exact hu
theorem zv_ek_ok (hk : zv_ek y1 y2 ρ φ ψ = true) : (ρ.length = n_N y1 ∧ ρ.length ≤ 900 ∧ zv_nd ρ = true ∧ zv_nd φ = true ∧ zv_nd ψ = true ∧ ∀ d ∈ ρ, d < n_N y2) ∧
    ((∀ q ∈ n_O y1, (zv_rc ρ q.1, q.2) ∈ n_O y2) ∧ (∀ q ∈ n_I y1, q.2.2.2 < φ.length ∧ (zv_rc ρ q.1, q.2.1, q.2.2.1, zv_rc φ q.2.2.2) ∈ n_I y2) ∧ (∀ q ∈ n_R y1, (zv_rc ρ q.1, q.2.1, q.2.2.1, zv_rc ρ q.2.2.2) ∈ n_R y2) ∧ (∀ q ∈ n_A y1, q.2.2.2 < ψ.length ∧ (zv_rc ρ q.1, q.2.1, q.2.2.1, zv_rc ψ q.2.2.2) ∈ n_A y2)) ∧
    (∀ c, c < ρ.length → (∃ q ∈ n_O y1, q.1 = c) ∨ ∃ q ∈ n_A y1, q.1 = c) ∧ (∀ j, j < φ.length → ∃ q ∈ n_I y1, q.2.2.2 = j) ∧ ∀ j, j < ψ.length → ∃ q ∈ n_A y1, q.2.2.2 = j := by
  unfold zv_ek at hk
  simp only [Bool.and_eq_true] at hk
  obtain ⟨⟨⟨⟨⟨⟨a1, a2⟩, a3⟩, a4, a5⟩, a6⟩, ⟨⟨b1, b2⟩, b3⟩, b4⟩, ⟨c1, c2⟩, c3⟩ := hk
  refine ⟨⟨z_beq a1, Nat.le_of_ble_eq_true a2, a3, a4, a5, fun d hd => z_blt (List.all_eq_true.mp a6 d hd)⟩, ⟨fun q hq => ?_, fun q hq => ?_, fun q hq => ?_, fun q hq => ?_⟩, fun c hc => ?_, fun j hj => ?_, fun j hj => ?_⟩
  · obtain ⟨u, hu, h2⟩ := List.any_eq_true.mp (List.all_eq_true.mp b1 q hq)
    rw [Bool.and_eq_true] at h2
    rw [← z_beq h2.1, ← z_beq h2.2]; exact hu
  · have h2 := List.all_eq_true.mp b2 q hq
    rw [Bool.and_eq_true] at h2
    exact ⟨z_blt h2.1, zv_any4 h2.2⟩
  · exact zv_any4 (List.all_eq_true.mp b3 q hq)
  · have h2 := List.all_eq_true.mp b4 q hq
    rw [Bool.and_eq_true] at h2
    exact ⟨z_blt h2.1, zv_any4 h2.2⟩
  · have h2 := List.all_eq_true.mp c1 c (List.mem_range.mpr hc)
    rw [Bool.or_eq_true] at h2
    rcases h2 with h2 | h2
    · obtain ⟨u, hu, h3⟩ := List.any_eq_true.mp h2
      exact Or.inl ⟨u, hu, z_beq h3⟩
    · obtain ⟨u, hu, h3⟩ := List.any_eq_true.mp h2
      exact Or.inr ⟨u, hu, z_beq h3⟩
  · obtain ⟨u, hu, h3⟩ := List.any_eq_true.mp (List.all_eq_true.mp c2 j (List.mem_range.mpr hj))
    exact ⟨u, hu, z_beq h3⟩
  · obtain ⟨u, hu, h3⟩ := List.any_eq_true.mp (List.all_eq_true.mp c3 j (List.mem_range.mpr hj))
    exact ⟨u, hu, z_beq h3⟩
theorem zv_rc_at {c : Nat} (h : c < ρ.length) : zv_l ρ c = some (zv_rc ρ c) := by
  obtain ⟨v, hv⟩ := zv_l_lt h
  rw [zv_rc_of hv]; exact hv
theorem zv_rc_out {c : Nat} (h : ρ.length ≤ c) : zv_rc ρ c = c := by
  unfold zv_rc
  rw [zv_l_get, List.getElem?_eq_none h]
theorem zv_rc_in {c : Nat} (h : c < ρ.length) : zv_rc ρ c ∈ ρ := by
  have := zv_rc_at h
  rw [zv_l_get] at this
  exact List.mem_of_getElem? this
end ZVEMB
theorem zv_emb {TBL : List Cond} {cl : List vw_C} {KXf : (Nat → Nat) → Nat → State → Heap → Prop} {y1 y2 : zNL} {mm : zM} {rm : Nat × Nat} {va F1 F1' F : List zNV} {G1 G1' G : List (Int → Int)} {r : Option Int} {ρ φ ψ : List Nat} (hw1 : zv_wf y1 = true) (hw2 : zv_wf y2 = true) (hk2 : zv_ek2 y2 = true) (hk : zv_ek y1 y2 ρ φ ψ = true) (h : zv_Fn TBL cl KXf y1 mm rm va F1 G1 r F1' G1') (hF : zv_mF ρ F φ F1) (hG : zv_mG G ψ G1) : zv_Fn TBL cl KXf y2 mm rm (va.map (zv_rn ρ)) F G r (zv_pF ρ φ F F1') (zv_pG ψ G G1') := by
  intro l OB D DA sz A va2 F2 G2 hP hinj hge hOB
  obtain ⟨rfl, rfl, rfl⟩ := hP
  obtain ⟨⟨hN, h9, ndR, ndF, ndG, hlt⟩, ⟨hO, hI, hR, hA⟩, hc, hpF, hpG⟩ := zv_ek_ok hk
  unfold zv_ek2 at hk2
  rw [Bool.and_eq_true] at hk2
  have h29 : n_N y2 ≤ 900 := Nat.le_of_ble_eq_true hk2.1
  have hRO : ∀ q ∈ n_R y2, ∃ u ∈ n_O y2, u.1 = q.1 ∧ u.2 = q.2.1 := fun q hq => by
    obtain ⟨u, hu, h3⟩ := List.any_eq_true.mp (List.all_eq_true.mp hk2.2 q hq)
    rw [Bool.and_eq_true] at h3
    exact ⟨u, hu, z_beq h3.1, z_beq h3.2⟩
  have hl9 : ∀ d ∈ ρ, d < 900 := fun d hd => by have := hlt d hd; omega
  have rlt : ∀ {c}, c < n_N y1 → zv_rc ρ c < n_N y2 := fun {c} h => hlt _ (zv_rc_in (by omega))
  have rinj : ∀ {a b}, a < n_N y1 → b < n_N y1 → zv_rc ρ a = zv_rc ρ b → a = b := fun {a b} ha hb e => zv_nd_ok ndR (zv_rc_at (by omega)) (by rw [e]; exact zv_rc_at (by omega))
  have rk : ∀ {c}, c < 1000 → zv_rc ρ c < 1000 := fun {c} h => by
    rcases Nat.lt_or_ge c ρ.length with q | q
    · have := rlt (c := c) (by omega); omega
    · rw [zv_rc_out q]; exact h
  have rk2 : ∀ {c}, zv_rc ρ c < 1000 → c < 1000 := fun {c} h => by
    rcases Nat.lt_or_ge c ρ.length with q | q
    · omega
    · rw [zv_rc_out q] at h; exact h
  have hok := h l OB D DA sz (fun c => A (zv_rc ρ c)) va F1 G1 ⟨rfl, rfl, rfl⟩ (fun a b ha hb e => rinj ha hb (hinj _ _ (rlt ha) (rlt hb) e)) (fun a ha => hge _ (rlt ha)) (fun k => by show A (zv_rc ρ (900 + k)) = _; rw [zv_rc_out (by omega)]; exact hOB k)
  intro p e hadm hf1 hf2 s m args below hfr happ hPre hK0
  obtain ⟨vals, rfl, hst, hrep, hsz, hK, hX⟩ := hPre
  have rep1 : zv_rep D DA cl y1 (fun c => A (zv_rc ρ c)) F1 G1 s.heap := by
    refine ⟨fun q hq => ?_, fun q hq => ?_, fun q hq => ?_, fun q hq => ?_⟩
    · exact hrep.1 _ (hO q hq)
    · obtain ⟨hl, hm⟩ := hI q hq
      obtain ⟨r0, w, f, c1, c2, c3, c4, c5⟩ := hrep.2.1 _ hm
      obtain ⟨f1, g, e1, e2, e3⟩ := zv_mF_at hF (zv_rc_at hl)
      have c4 : zv_l F2 (zv_rc φ q.2.2.2) = some f := c4
      rw [c4] at e2
      cases e2
      refine ⟨r0, w, f1, c1, c2, c3, e1, fun his => ?_⟩
      have ef := e3 his
      match f1, his, ef with
      | .inl x, _, ef => rw [ef] at c5; exact c5 trivial
      | .inr c, his, ef => rw [ef] at c5; exact zv_w_rn h9 hl9 (c5 (rk his))
    · exact hrep.2.2.1 _ (hR q hq)
    · obtain ⟨hl, hm⟩ := hA q hq
      obtain ⟨f, g, x1, x2, x3⟩ := hrep.2.2.2 _ hm
      obtain ⟨g1, e1, e2⟩ := zv_mG_at hG (zv_rc_at hl)
      have x2 : zv_l G2 (zv_rc ψ q.2.2.2) = some g := x2
      rw [x2] at e2
      cases e2
      exact ⟨f, g, x1, e1, x3⟩
  obtain ⟨n, o, k1, k2, k3, k4, k5⟩ := hok p e hadm hf1 hf2 s m _ below hfr happ ⟨vals, rfl, zv_st_rn h9 hl9 hst, rep1, hsz, hK, hX⟩ trivial
  refine ⟨n, o, k1, k2, k3, ?_, k5⟩
  obtain ⟨r', v, F', G', e0, q1, q2, q3, rfl, rfl, rfl⟩ := k4
  have hun : ∀ b, b < n_N y2 → (¬ ∃ c, c < n_N y1 ∧ zv_rc ρ c = b) → (_ : Heap)[A b]? = s.heap[A b]? := fun b hb hne => q3.2.1 (A b) (fun c hc e => hne ⟨c, hc, hinj _ _ (rlt hc) hb e⟩)
  have nFr : ∀ q ∈ n_I y2, (∀ u ∈ n_I y1, ¬ (zv_rc ρ u.1 = q.1 ∧ u.2.2.1 = q.2.2.1)) → ∀ j, zv_l φ j ≠ some q.2.2.2 := fun q hq hne j hj => by
    obtain ⟨u, hu, ej⟩ := hpF j (zv_l_len hj)
    obtain ⟨hl, hm⟩ := hI u hu
    have ep : zv_rc φ u.2.2.2 = q.2.2.2 := by rw [ej]; exact zv_rc_of hj
    obtain ⟨w1, w2⟩ := zv_wfI hw2 hm hq
    exact hne u hu (w1.mp ep)
  have nGr : ∀ q ∈ n_A y2, (∀ u ∈ n_A y1, zv_rc ρ u.1 ≠ q.1) → ∀ j, zv_l ψ j ≠ some q.2.2.2 := fun q hq hne j hj => by
    obtain ⟨u, hu, ej⟩ := hpG j (zv_l_len hj)
    obtain ⟨hl, hm⟩ := hA u hu
    have ep : zv_rc ψ u.2.2.2 = q.2.2.2 := by rw [ej]; exact zv_rc_of hj
    exact hne u hu (((zv_wfA hw2 hm).2.1 q hq).1.mp ep)
  refine ⟨r', v, _, _, e0, q1, ⟨fun q hq => ?_, fun q hq => ?_, fun q hq => ?_, fun q hq => ?_⟩, ⟨q3.1, fun b hb => q3.2.1 b (fun c hc => hb _ (rlt hc)), fun q hq r0 k w hcl hkr hni hs => ?_⟩, rfl, rfl, rfl⟩
  · have hq1 := (zv_wfO hw2 hq).1
    by_cases him : ∃ c, c < n_N y1 ∧ zv_rc ρ c = q.1
    · obtain ⟨c, c1, c2⟩ := him
      rcases hc c (by omega) with ⟨u, hu, eu⟩ | ⟨u, hu, eu⟩
      · have ecl := zv_wfOO hw2 (hO u hu) hq (by show zv_rc ρ u.1 = q.1; rw [eu]; exact c2)
        obtain ⟨r0, V, y3, y4⟩ := q2.1 u hu
        have ecl : u.2 = q.2 := ecl
        rw [ecl] at y3 y4
        have ea : A (zv_rc ρ u.1) = A q.1 := by rw [eu, c2]
        exact ⟨r0, V, y3, by rw [← ea]; exact y4⟩
      · exact absurd (by show q.1 = zv_rc ρ u.1; rw [eu, c2]) ((zv_wfO hw2 hq).2.1 _ (hA u hu).2)
    · obtain ⟨r0, V, y3, y4⟩ := hrep.1 q hq
      exact ⟨r0, V, y3, y4.kept (hun _ hq1 him)⟩
  · obtain ⟨hq1, oo, ho, ho1, ho2⟩ := zv_wfIn hw2 hq
    obtain ⟨r0, w, f, c1, c2, c3, c4, c5⟩ := hrep.2.1 q hq
    by_cases hin : ∃ u ∈ n_I y1, zv_rc ρ u.1 = q.1 ∧ u.2.2.1 = q.2.2.1
    · obtain ⟨u, hu, eu1, eu2⟩ := hin
      obtain ⟨hl, hm⟩ := hI u hu
      obtain ⟨w1, w2⟩ := zv_wfI hw2 hm hq
      have ep : zv_rc φ u.2.2.2 = q.2.2.2 := w1.mpr ⟨eu1, eu2⟩
      have ec : u.2.1 = q.2.1 := w2 eu1
      obtain ⟨r1, w', f', d1, d2, d3, d4, d5⟩ := q2.2.1 u hu
      have hlp := zv_rc_at hl
      rw [ep] at hlp
      rw [ec] at d1 d3
      rw [eu2] at d2 d3
      have ea : A (zv_rc ρ u.1) = A q.1 := by rw [eu1]
      refine ⟨r1, w', zv_rn ρ f', d1, d2, by rw [← ea]; exact d3, zv_pF_at ndF hlp d4 ⟨f, c4⟩, fun his => ?_⟩
      match f', his, d5 with
      | .inl x, _, d5 => exact d5 trivial
      | .inr c, his, d5 =>
        have hc := rk2 his
        have hw : w' = .ref (A (zv_rc ρ c)) := zv_w_r (A := fun c => A (zv_rc ρ c)) (d5 hc) (by have : c < 1000 := hc; omega)
        rw [hw]
        exact zv_w_mk (by have : zv_rc ρ c < 1000 := his; omega)
    · have hne : ∀ u ∈ n_I y1, ¬ (zv_rc ρ u.1 = q.1 ∧ u.2.2.1 = q.2.2.1) := fun u hu he => hin ⟨u, hu, he⟩
      refine ⟨r0, w, f, c1, c2, ?_, by rw [zv_pF_ne (nFr q hq hne)]; exact c4, c5⟩
      by_cases him : ∃ c, c < n_N y1 ∧ zv_rc ρ c = q.1
      · obtain ⟨c, x1, x2⟩ := him
        rcases hc c (by omega) with ⟨u, hu, eu⟩ | ⟨u, hu, eu⟩
        · have ecl : u.2 = oo.2 := zv_wfOO (q := (zv_rc ρ u.1, u.2)) hw2 (hO u hu) ho (by show zv_rc ρ u.1 = oo.1; rw [eu, ho1]; exact x2)
          have ea : A (zv_rc ρ u.1) = A q.1 := by rw [eu, x2]
          have := q3.2.2 u hu r0 q.2.2.1 w (by rw [ecl, ho2]; exact c1) c2 (fun i hi e1 e2 => hne i hi ⟨by rw [e1, eu]; exact x2, e2⟩) (by show z_sl _ (A (zv_rc ρ u.1)) _ _; rw [ea, ecl, ho2]; exact c3)
          have this : z_sl _ (A (zv_rc ρ u.1)) (D.2 u.2 q.2.2.1) w := this
          rw [ea, ecl, ho2] at this
          exact this
        · exact absurd (by show oo.1 = zv_rc ρ u.1; rw [ho1, eu, x2]) ((zv_wfO hw2 ho).2.1 _ (hA u hu).2)
      · exact z_sl_kept c3 (hun _ hq1 him)
  · obtain ⟨hq1, -⟩ := zv_wfR hw2 hq
    obtain ⟨r0, c1, c2, c3⟩ := hrep.2.2.1 q hq
    obtain ⟨oo, ho, ho1, ho2⟩ := hRO q hq
    refine ⟨r0, c1, c2, ?_⟩
    by_cases him : ∃ c, c < n_N y1 ∧ zv_rc ρ c = q.1
    · obtain ⟨c, x1, x2⟩ := him
      rcases hc c (by omega) with ⟨u, hu, eu⟩ | ⟨u, hu, eu⟩
      · have ecl : u.2 = oo.2 := zv_wfOO (q := (zv_rc ρ u.1, u.2)) hw2 (hO u hu) ho (by show zv_rc ρ u.1 = oo.1; rw [eu, ho1]; exact x2)
        have ea : A (zv_rc ρ u.1) = A q.1 := by rw [eu, x2]
        have := q3.2.2 u hu r0 q.2.2.1 _ (by rw [ecl, ho2]; exact c1) c2 (fun i hi e1 e2 => (zv_wfIR hw2 (hI i hi).2 hq).1 ⟨by show zv_rc ρ i.1 = q.1; rw [e1, eu]; exact x2, e2⟩) (by show z_sl _ (A (zv_rc ρ u.1)) _ _; rw [ea, ecl, ho2]; exact c3)
        have this : z_sl _ (A (zv_rc ρ u.1)) (D.2 u.2 q.2.2.1) _ := this
        rw [ea, ecl, ho2] at this
        exact this
      · exact absurd (by show oo.1 = zv_rc ρ u.1; rw [ho1, eu, x2]) ((zv_wfO hw2 ho).2.1 _ (hA u hu).2)
    · exact z_sl_kept c3 (hun _ hq1 him)
  · obtain ⟨hq1, w2, w3, w4⟩ := zv_wfA hw2 hq
    obtain ⟨f, g, x1, x2, x3⟩ := hrep.2.2.2 q hq
    by_cases hin : ∃ u ∈ n_A y1, zv_rc ρ u.1 = q.1
    · obtain ⟨u, hu, eu⟩ := hin
      obtain ⟨hl, hm⟩ := hA u hu
      obtain ⟨p1, p2⟩ := w2 _ hm
      obtain ⟨p3, p4⟩ := p2 eu.symm
      have ep : q.2.2.2 = zv_rc ψ u.2.2.2 := p1.mpr eu.symm
      have p3 : q.2.1 = u.2.1 := p3
      have p4 : q.2.2.1 = u.2.2.1 := p4
      obtain ⟨f', g', z1, z2, z3⟩ := q2.2.2.2 u hu
      have hlp := zv_rc_at hl
      rw [← ep] at hlp
      have ea : A (zv_rc ρ u.1) = A q.1 := by rw [eu]
      refine ⟨f', g', ?_, zv_pG_at ndG hlp z2 ⟨g, x2⟩, by rw [p4, p3]; exact z3⟩
      rw [← ea, p3, p4]
      exact z1
    · have hne : ∀ u ∈ n_A y1, zv_rc ρ u.1 ≠ q.1 := fun u hu he => hin ⟨u, hu, he⟩
      refine ⟨f, g, ?_, by rw [zv_pG_ne (nGr q hq hne)]; exact x2, x3⟩
      by_cases him : ∃ c, c < n_N y1 ∧ zv_rc ρ c = q.1
      · obtain ⟨c, y1', y2'⟩ := him
        rcases hc c (by omega) with ⟨u, hu, eu⟩ | ⟨u, hu, eu⟩
        · exact absurd (by show zv_rc ρ u.1 = q.1; rw [eu]; exact y2') ((zv_wfO hw2 (hO u hu)).2.1 _ hq)
        · exact absurd (by rw [eu]; exact y2') (hne u hu)
      · rw [hun _ hq1 him]; exact x1
  · have hq1 := (zv_wfO hw2 hq).1
    by_cases him : ∃ c, c < n_N y1 ∧ zv_rc ρ c = q.1
    · obtain ⟨c, x1, x2⟩ := him
      rcases hc c (by omega) with ⟨u, hu, eu⟩ | ⟨u, hu, eu⟩
      · have ecl : u.2 = q.2 := zv_wfOO (q := (zv_rc ρ u.1, u.2)) hw2 (hO u hu) hq (by show zv_rc ρ u.1 = q.1; rw [eu]; exact x2)
        have ea : A (zv_rc ρ u.1) = A q.1 := by rw [eu, x2]
        have := q3.2.2 u hu r0 k w (by rw [ecl]; exact hcl) hkr (fun i hi e1 e2 => hni _ (hI i hi).2 (by show zv_rc ρ i.1 = q.1; rw [e1, eu]; exact x2) e2) (by show z_sl _ (A (zv_rc ρ u.1)) _ _; rw [ea, ecl]; exact hs)
        have this : z_sl _ (A (zv_rc ρ u.1)) (D.2 u.2 k) w := this
        rw [ea, ecl] at this
        exact this
      · exact absurd (by show q.1 = zv_rc ρ u.1; rw [eu, x2]) ((zv_wfO hw2 hq).2.1 _ (hA u hu).2)
    · exact z_sl_kept hs (hun _ hq1 him)
/-! The same, with what comes of it written place by place. -/
def zv_gt (ρ : List Nat) (F1 : List zNV) (j : Nat) (d : zNV) : zNV := match zv_l F1 j with
  | some f => zv_rn ρ f
  | none => d
def zv_mkF (ρ : List Nat) (F1 : List zNV) : List (Option Nat) → List zNV → List zNV
  | none :: p, f :: F => f :: zv_mkF ρ F1 p F
  | some j :: p, f :: F => zv_gt ρ F1 j f :: zv_mkF ρ F1 p F
  | _, F => F
def zv_gg (G1 : List (Int → Int)) (j : Nat) (d : Int → Int) : Int → Int := match zv_l G1 j with
  | some g => g
  | none => d
def zv_mkG (G1 : List (Int → Int)) : List (Option Nat) → List (Int → Int) → List (Int → Int)
  | none :: p, f :: F => f :: zv_mkG G1 p F
  | some j :: p, f :: F => zv_gg G1 j f :: zv_mkG G1 p F
  | _, F => F
def zv_pn (φ : List Nat) (p : List (Option Nat)) : Bool := φ.all (fun k => Nat.blt k p.length) && (List.range p.length).all (fun k => match zv_l p k with
  | some (some j) => Nat.blt j φ.length && Nat.beq (zv_rc φ j) k
  | _ => φ.all (fun q => !(Nat.beq q k)))
theorem zv_mkF_l {ρ : List Nat} {F1 : List zNV} : ∀ {p : List (Option Nat)} {F : List zNV} {k : Nat}, zv_l (zv_mkF ρ F1 p F) k = match zv_l p k with
    | some (some j) => (zv_l F k).map (zv_gt ρ F1 j)
    | _ => zv_l F k
  | [], F, k => by cases F <;> rfl
  | none :: p, [], k => by
    show zv_l ([] : List zNV) k = _
    cases h : zv_l (none :: p) k with
    | none => rfl
    | some o => cases o <;> rfl
  | some j :: p, [], k => by
    show zv_l ([] : List zNV) k = _
    cases h : zv_l (some j :: p) k with
    | none => rfl
    | some o => cases o <;> rfl
  | none :: p, f :: F, 0 => rfl
  | some j :: p, f :: F, 0 => rfl
  | none :: p, f :: F, k + 1 => zv_mkF_l (p := p) (F := F) (k := k)
  | some j :: p, f :: F, k + 1 => zv_mkF_l (p := p) (F := F) (k := k)
theorem zv_mkG_l {G1 : List (Int → Int)} : ∀ {p : List (Option Nat)} {F : List (Int → Int)} {k : Nat}, zv_l (zv_mkG G1 p F) k = match zv_l p k with
    | some (some j) => (zv_l F k).map (zv_gg G1 j)
    | _ => zv_l F k
  | [], F, k => by cases F <;> rfl
  | none :: p, [], k => by
    show zv_l ([] : List (Int → Int)) k = _
    cases h : zv_l (none :: p) k with
    | none => rfl
    | some o => cases o <;> rfl
  | some j :: p, [], k => by
    show zv_l ([] : List (Int → Int)) k = _
    cases h : zv_l (some j :: p) k with
    | none => rfl
    | some o => cases o <;> rfl
  | none :: p, f :: F, 0 => rfl
  | some j :: p, f :: F, 0 => rfl
  | none :: p, f :: F, k + 1 => zv_mkG_l (p := p) (F := F) (k := k)
  | some j :: p, f :: F, k + 1 => zv_mkG_l (p := p) (F := F) (k := k)
theorem zv_ext {α : Type} {A B : List α} (h : ∀ k, zv_l A k = zv_l B k) : A = B := by
  refine List.ext_getElem? fun k => ?_
  rw [← zv_l_get, ← zv_l_get]
  exact h k
theorem zv_pn_ok {φ : List Nat} {p : List (Option Nat)} (h : zv_pn φ p = true) : (∀ j k, zv_l φ j = some k → k < p.length) ∧ ∀ k, k < p.length → (∃ j, zv_l p k = some (some j) ∧ zv_l φ j = some k) ∨ (zv_l p k = some none ∧ ∀ j, zv_l φ j ≠ some k) := by
  unfold zv_pn at h
  rw [Bool.and_eq_true] at h
  refine ⟨fun j k hj => ?_, fun k hk => ?_⟩
  · rw [zv_l_get] at hj
    exact z_blt (List.all_eq_true.mp h.1 k (List.mem_of_getElem? hj))
  · have h2 := List.all_eq_true.mp h.2 k (List.mem_range.mpr hk)
    obtain ⟨v, hv⟩ := zv_l_lt hk
    rw [hv] at h2
    cases v with
    | some j =>
      have h2 : (Nat.blt j φ.length && Nat.beq (zv_rc φ j) k) = true := h2
      rw [Bool.and_eq_true] at h2
      refine Or.inl ⟨j, hv, ?_⟩
      rw [← z_beq h2.2]
      exact zv_rc_at (z_blt h2.1)
    | none =>
      have h2 : φ.all (fun q => !(Nat.beq q k)) = true := h2
      refine Or.inr ⟨hv, fun j hj => ?_⟩
      rw [zv_l_get] at hj
      have := List.all_eq_true.mp h2 k (List.mem_of_getElem? hj)
      rw [Nat.beq_refl] at this
      cases this
theorem zv_l_none {α : Type} {L : List α} {k : Nat} (h : L.length ≤ k) : zv_l L k = none := by
  rw [zv_l_get]
  exact List.getElem?_eq_none h
theorem zv_mkF_eq {ρ φ : List Nat} {p : List (Option Nat)} {F F1 : List zNV} (hp : zv_pn φ p = true) (hn : zv_nd φ = true) (hF : p.length = F.length) (h1 : F1.length = φ.length) : zv_mkF ρ F1 p F = zv_pF ρ φ F F1 := by
  obtain ⟨p1, p2⟩ := zv_pn_ok hp
  refine zv_ext fun k => ?_
  rw [zv_mkF_l]
  rcases Nat.lt_or_ge k p.length with lt | ge
  · obtain ⟨f, hf⟩ := zv_l_lt (show k < F.length by omega)
    rcases p2 k lt with ⟨j, j1, j2⟩ | ⟨j1, j2⟩
    · obtain ⟨g, hg⟩ := zv_l_lt (show j < F1.length by rw [h1]; exact zv_l_len j2)
      rw [j1, zv_pF_at hn j2 hg ⟨f, hf⟩, hf]
      show some (zv_gt ρ F1 j f) = _
      unfold zv_gt
      rw [hg]
    · rw [j1, zv_pF_ne j2]
  · rw [zv_l_none ge, zv_pF_ne (fun j hj => by have := p1 j k hj; omega)]
theorem zv_mkG_eq {ψ : List Nat} {p : List (Option Nat)} {G G1 : List (Int → Int)} (hp : zv_pn ψ p = true) (hn : zv_nd ψ = true) (hF : p.length = G.length) (h1 : G1.length = ψ.length) : zv_mkG G1 p G = zv_pG ψ G G1 := by
  obtain ⟨p1, p2⟩ := zv_pn_ok hp
  refine zv_ext fun k => ?_
  rw [zv_mkG_l]
  rcases Nat.lt_or_ge k p.length with lt | ge
  · obtain ⟨f, hf⟩ := zv_l_lt (show k < G.length by omega)
    rcases p2 k lt with ⟨j, j1, j2⟩ | ⟨j1, j2⟩
    · obtain ⟨g, hg⟩ := zv_l_lt (show j < G1.length by rw [h1]; exact zv_l_len j2)
      rw [j1, zv_pG_at hn j2 hg ⟨f, hf⟩, hf]
      show some (zv_gg G1 j f) = _
      unfold zv_gg
      rw [hg]
    · rw [j1, zv_pG_ne j2]
  · rw [zv_l_none ge, zv_pG_ne (fun j hj => by have := p1 j k hj; omega)]
theorem zv_emq {TBL : List Cond} {cl : List vw_C} {KXf : (Nat → Nat) → Nat → State → Heap → Prop} {y1 y2 : zNL} {mm : zM} {rm : Nat × Nat} {va va2 F1 F1' F F' : List zNV} {G1 G1' G G' : List (Int → Int)} {r : Option Int} {ρ φ ψ : List Nat} (pF pG : List (Option Nat)) (hw1 : zv_wf y1 = true) (hw2 : zv_wf y2 = true) (hk2 : zv_ek2 y2 = true) (hk : (zv_ek y1 y2 ρ φ ψ && (zv_pn φ pF && zv_pn ψ pG)) = true) (h : zv_Fn TBL cl KXf y1 mm rm va F1 G1 r F1' G1') (hF : zv_mF ρ F φ F1) (hG : zv_mG G ψ G1)
    (l1 : pF.length = F.length) (l2 : F1'.length = φ.length) (l3 : pG.length = G.length) (l4 : G1'.length = ψ.length) (e1 : va.map (zv_rn ρ) = va2) (e2 : zv_mkF ρ F1' pF F = F') (e3 : zv_mkG G1' pG G = G') : zv_Fn TBL cl KXf y2 mm rm va2 F G r F' G' := by
  rw [Bool.and_eq_true, Bool.and_eq_true] at hk
  obtain ⟨hk, k1, k2⟩ := hk
  obtain ⟨⟨-, -, -, ndF, ndG, -⟩, -⟩ := zv_ek_ok hk
  subst e1; subst e2; subst e3
  rw [zv_mkF_eq k1 ndF l1 l2, zv_mkG_eq k2 ndG l3 l4]
  exact zv_emb hw1 hw2 hk2 hk h hF hG
section ZVCALLS
variable {cl : List vw_C} {FT : Nat → Nat → FieldType} {KXf : (Nat → Nat) → Nat → State → Heap → Prop} {TBL : List Cond} {MT : List zM} {y : zNL} {mm : zM} {K : zK} {rm : Nat × Nat} {good : Nat → List zNV → List zNV → List zNV → List (Int → Int) → Prop}
variable {pc : Nat} {L S S0 : List zNV} {F F' : List zNV} {G G' : List (Int → Int)} {i c : Nat} {mm2 : zM} {rm2 : Nat × Nat} {va : List zNV} {r : Option Int}
theorem zv_cv (hB : zv_B cl FT KXf TBL MT y mm K rm good) (hok : zv_Fn TBL cl KXf y mm2 rm2 (.inr c :: va) F G r F' G') (hd : decode mm.2.1 pc = .ok (.invokevirtual i, 3)) (hl : zv_lk K MT (fun k => Nat.beq k 0) i = some mm2)
    (hc : ((n_O y).any (fun o => Nat.beq o.1 c && Nat.beq o.2 mm2.2.2.2.2.2) && Nat.beq va.length mm2.2.2.2.2.1 && (Nat.ble S.length 8 && S.all zv_n1)) = true) (hr1 : rm2.1 + 1 ≤ rm.1) (hr2 : 8 + (mm2.2.2.1 + 11) + rm2.2 ≤ rm.2) (hs : S0 = va.reverse ++ .inr c :: S)
    (k : good (pc + 3) L (zv_ro r S) F' G') : good pc L S0 F G := by
  rw [Bool.and_eq_true, Bool.and_eq_true] at hc
  rw [hs]
  exact zv_inv0 (va := va) hB hok hd hl hc.1.1 hc.1.2 hc.2 (by rw [Nat.ble_eq_true_of_le hr1, Nat.ble_eq_true_of_le hr2]; rfl) ⟨rfl, rfl, rfl⟩ (fun r2 F2 G2 h => by obtain ⟨rfl, rfl, rfl⟩ := h; exact k)
theorem zv_cs (hB : zv_B cl FT KXf TBL MT y mm K rm good) (hok : zv_Fn TBL cl KXf y mm2 rm2 va F G r F' G') (hd : decode mm.2.1 pc = .ok (.invokestatic i, 3)) (hl : zv_lk K MT (fun k => Nat.beq k 1 || Nat.beq k 4) i = some mm2)
    (hc : (Nat.beq va.length mm2.2.2.2.2.1 && (Nat.ble S.length 8 && S.all zv_n1)) = true) (hr1 : rm2.1 + 1 ≤ rm.1) (hr2 : 8 + (mm2.2.2.1 + 11) + rm2.2 ≤ rm.2) (hs : S0 = va.reverse ++ S)
    (k : good (pc + 3) L (zv_ro r S) F' G') : good pc L S0 F G := by
  rw [Bool.and_eq_true] at hc
  rw [hs]
  exact zv_inv1 (va := va) hB hok hd hl hc.1 hc.2 (by rw [Nat.ble_eq_true_of_le hr1, Nat.ble_eq_true_of_le hr2]; rfl) ⟨rfl, rfl, rfl⟩ (fun r2 F2 G2 h => by obtain ⟨rfl, rfl, rfl⟩ := h; exact k)
end ZVCALLS
end
