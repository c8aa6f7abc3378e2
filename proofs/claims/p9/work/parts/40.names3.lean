/-! Rules over named cells: switches, fields, arrays. -/
/-- a switch, case by case -/
def zv_sw (pc : Nat) (good : Nat → Prop) (a dflt : Int) : List (Int × Int) → Prop
  | [] => ∃ t, z_to pc dflt = some t ∧ good t
  | q :: r => (a = q.1 → ∃ t, z_to pc q.2 = some t ∧ good t) ∧ (a ≠ q.1 → zv_sw pc good a dflt r)
theorem zv_sw_ok {pc : Nat} {good : Nat → Prop} {a dflt : Int} : ∀ {ps : List (Int × Int)}, zv_sw pc good a dflt ps → ∃ t, z_to pc (lookupswitch.offset ps dflt a) = some t ∧ good t
  | [], h => h
  | (k, o) :: r, h => by
    rw [lookupswitch.offset_cons]
    by_cases e : k = a
    · rw [if_pos e]; exact h.1 e.symm
    · rw [if_neg e]; exact zv_sw_ok (h.2 (fun q => e q.symm))
def zv_tp : Int → List Int → List (Int × Int)
  | _, [] => []
  | lo, o :: r => (lo, o) :: zv_tp (lo + 1) r
theorem zv_tp_in : ∀ {offs : List Int} {lo d a : Int} {i : Nat} {o : Int}, offs[i]? = some o → a = lo + i → lookupswitch.offset (zv_tp lo offs) d a = o
  | [], _, _, _, _, _, h, _ => by simp at h
  | x :: r, lo, d, a, 0, o, h, e => by
    have : x = o := by simpa using h
    unfold zv_tp
    rw [lookupswitch.offset_cons, if_pos (by rw [e]; simp), this]
  | x :: r, lo, d, a, i + 1, o, h, e => by
    unfold zv_tp
    rw [lookupswitch.offset_cons, if_neg (by rw [e]; omega)]
    exact zv_tp_in (i := i) (by simpa using h) (by rw [e]; omega)
theorem zv_tp_out : ∀ {offs : List Int} {lo d a : Int}, (a < lo ∨ lo + offs.length ≤ a) → lookupswitch.offset (zv_tp lo offs) d a = d
  | [], _, _, _, _ => rfl
  | x :: r, lo, d, a, h => by
    unfold zv_tp
    have h : a < lo ∨ lo + (r.length + 1 : Nat) ≤ a := h
    rw [lookupswitch.offset_cons, if_neg (by omega)]
    exact zv_tp_out (by omega)
/-- a field that can be set: whether it is a boolean -/
def zv_pk (cl : List vw_C) (FT : Nat → Nat → FieldType) (K : zK) (i : Nat) : Option Bool := match (k_FL K).find? (fun q => Nat.beq q.1 i) with
  | some q => (match cl[q.2.1]? with
    | some r => cond (r.2.1 q.2.2).2.2.2 none (match FT q.2.1 q.2.2 with
      | .int => some false
      | .boolean => some true
      | _ => none)
    | none => none)
  | none => none
theorem zv_wfI {y : zNL} (h : zv_wf y = true) {q u : Nat × Nat × Nat × Nat} (hq : q ∈ n_I y) (hu : u ∈ n_I y) : (q.2.2.2 = u.2.2.2 ↔ q.1 = u.1 ∧ q.2.2.1 = u.2.2.1) ∧ (q.1 = u.1 → q.2.1 = u.2.1) := by
  have h := (zv_wf0_of h).2
  unfold zv_wf0 at h
  simp only [Bool.and_eq_true] at h
  have h1 := List.all_eq_true.mp h.1.1.1 q hq
  simp only [Bool.and_eq_true] at h1
  have h2 := List.all_eq_true.mp h1.1.1.1 u hu
  simp only [Bool.and_eq_true, Bool.or_eq_true, Bool.not_eq_true', beq_iff_eq] at h2
  refine ⟨⟨fun e => ?_, fun e => ?_⟩, fun e => ?_⟩
  · have : Nat.beq q.2.2.2 u.2.2.2 = true := by rw [e]; exact Nat.beq_refl _
    rw [h2.1, Bool.and_eq_true] at this
    exact ⟨z_beq this.1, z_beq this.2⟩
  · refine z_beq ?_
    rw [h2.1, e.1, e.2, Nat.beq_refl, Nat.beq_refl]; rfl
  · rcases h2.2 with h3 | h3
    · rw [e, Nat.beq_refl] at h3; cases h3
    · exact z_beq h3
theorem zv_wfIR {y : zNL} (h : zv_wf y = true) {q u : Nat × Nat × Nat × Nat} (hq : q ∈ n_I y) (hu : u ∈ n_R y) : ¬ (q.1 = u.1 ∧ q.2.2.1 = u.2.2.1) ∧ (q.1 = u.1 → q.2.1 = u.2.1) := by
  have h := (zv_wf0_of h).2
  unfold zv_wf0 at h
  simp only [Bool.and_eq_true] at h
  have h1 := List.all_eq_true.mp h.1.1.1 q hq
  simp only [Bool.and_eq_true] at h1
  have h2 := List.all_eq_true.mp h1.1.2 u hu
  simp only [Bool.and_eq_true, Bool.or_eq_true, Bool.not_eq_true'] at h2
  refine ⟨fun e => ?_, fun e => ?_⟩
  · have := h2.1
    rw [e.1, e.2, Nat.beq_refl, Nat.beq_refl] at this
    cases this
  · rcases h2.2 with h3 | h3
    · rw [e, Nat.beq_refl] at h3; cases h3
    · exact z_beq h3
theorem zv_wfIn {y : zNL} (h : zv_wf y = true) {q : Nat × Nat × Nat × Nat} (hq : q ∈ n_I y) : q.1 < n_N y ∧ ∃ o ∈ n_O y, o.1 = q.1 ∧ o.2 = q.2.1 := by
  have h := (zv_wf0_of h).2
  unfold zv_wf0 at h
  simp only [Bool.and_eq_true] at h
  have h1 := List.all_eq_true.mp h.1.1.1 q hq
  simp only [Bool.and_eq_true] at h1
  obtain ⟨o, ho, ho2⟩ := List.any_eq_true.mp h1.2
  rw [Bool.and_eq_true] at ho2
  exact ⟨z_blt h1.1.1.2, o, ho, z_beq ho2.1, z_beq ho2.2⟩
theorem zv_wfR {y : zNL} (h : zv_wf y = true) {q : Nat × Nat × Nat × Nat} (hq : q ∈ n_R y) : q.1 < n_N y ∧ q.2.2.2 < n_N y := by
  have h := (zv_wf0_of h).2
  unfold zv_wf0 at h
  simp only [Bool.and_eq_true] at h
  have h1 := List.all_eq_true.mp h.1.1.2 q hq
  rw [Bool.and_eq_true] at h1
  exact ⟨z_blt h1.1, z_blt h1.2⟩
theorem zv_wfO {y : zNL} (h : zv_wf y = true) {q : Nat × Nat} (hq : q ∈ n_O y) : q.1 < n_N y ∧ (∀ u ∈ n_A y, q.1 ≠ u.1) ∧ ∀ u ∈ n_I y, q.1 = u.1 → q.2 = u.2.1 := by
  have h := (zv_wf0_of h).2
  unfold zv_wf0 at h
  simp only [Bool.and_eq_true] at h
  have h1 := List.all_eq_true.mp h.1.2 q hq
  simp only [Bool.and_eq_true] at h1
  refine ⟨z_blt h1.1.1.1, fun u hu e => ?_, fun u hu e => ?_⟩
  · have h2 := List.all_eq_true.mp h1.1.2 u hu
    rw [e, Nat.beq_refl] at h2; cases h2
  · have h2 := List.all_eq_true.mp h1.2 u hu
    simp only [Bool.or_eq_true, Bool.not_eq_true'] at h2
    rcases h2 with h3 | h3
    · rw [e, Nat.beq_refl] at h3; cases h3
    · exact z_beq h3
theorem zv_wfA {y : zNL} (h : zv_wf y = true) {q : Nat × Nat × Nat × Nat} (hq : q ∈ n_A y) : q.1 < n_N y ∧ (∀ u ∈ n_A y, (q.2.2.2 = u.2.2.2 ↔ q.1 = u.1) ∧ (q.1 = u.1 → q.2.1 = u.2.1 ∧ q.2.2.1 = u.2.2.1)) ∧ (∀ u ∈ n_I y, q.1 ≠ u.1) ∧ ∀ u ∈ n_R y, q.1 ≠ u.1 := by
  have h := (zv_wf0_of h).2
  unfold zv_wf0 at h
  simp only [Bool.and_eq_true] at h
  have h1 := List.all_eq_true.mp h.2 q hq
  simp only [Bool.and_eq_true] at h1
  refine ⟨z_blt h1.1.1.1, fun u hu => ?_, fun u hu e => ?_, fun u hu e => ?_⟩
  · have h2 := List.all_eq_true.mp h1.1.1.2 u hu
    simp only [Bool.and_eq_true, Bool.or_eq_true, Bool.not_eq_true', beq_iff_eq] at h2
    refine ⟨⟨fun e => ?_, fun e => ?_⟩, fun e => ?_⟩
    · refine z_beq ?_
      rw [← h2.1, e]; exact Nat.beq_refl _
    · refine z_beq ?_
      rw [h2.1, e]; exact Nat.beq_refl _
    · rcases h2.2 with h3 | h3
      · rw [e, Nat.beq_refl] at h3; cases h3
      · exact ⟨z_beq h3.1, z_beq h3.2⟩
  · have h2 := List.all_eq_true.mp h1.1.2 u hu
    rw [e, Nat.beq_refl] at h2; cases h2
  · have h2 := List.all_eq_true.mp h1.2 u hu
    rw [e, Nat.beq_refl] at h2; cases h2
/-- a field of references that can be set -/
def zv_pq (cl : List vw_C) (FT : Nat → Nat → FieldType) (K : zK) (i : Nat) : Option Bool := match (k_FL K).find? (fun q => Nat.beq q.1 i) with
  | some q => (match cl[q.2.1]? with
    | some r => cond (r.2.1 q.2.2).2.2.2 none (match FT q.2.1 q.2.2 with
      | .object _ => some true
      | .array _ => some true
      | _ => none)
    | none => none)
  | none => none
theorem zv_fi_lt {K : zK} {y : zNL} {i c j : Nat} (hwf : zv_wf y = true) (h : zv_fi K y i c = some j) : c < 5000 := by
  obtain ⟨ci, k, -, h2⟩ := zv_fi_ok h
  have h3 : c < n_N y := (zv_wfIn hwf h2).1
  have := (zv_wf0_of hwf).1
  omega
theorem zv_fr_lt {K : zK} {y : zNL} {i c j : Nat} (hwf : zv_wf y = true) (h : zv_fr K y i c = some j) : c < 5000 ∧ j < 5000 := by
  obtain ⟨ci, k, -, h2⟩ := zv_fr_ok h
  obtain ⟨h3, h4⟩ := zv_wfR hwf h2
  have h3 : c < n_N y := h3
  have h4 : j < n_N y := h4
  have := (zv_wf0_of hwf).1
  exact ⟨by omega, by omega⟩
theorem zv_ar_lt {y : zNL} {c : Nat} {q : Nat × Nat × Nat} (hwf : zv_wf y = true) (h : zv_ar y c = some q) : c < 5000 := by
  have h3 : c < n_N y := (zv_wfA hwf (zv_ar_ok h)).1
  have := (zv_wf0_of hwf).1
  omega
theorem zv_any_lt {y : zNL} {c k : Nat} (hwf : zv_wf y = true) (h : (n_O y).any (fun o => Nat.beq o.1 c && Nat.beq o.2 k) = true) : c < 5000 := by
  obtain ⟨o, ho, ho2⟩ := List.any_eq_true.mp h
  rw [Bool.and_eq_true] at ho2
  have h3 := (zv_wfO hwf ho).1
  have := (zv_wf0_of hwf).1
  rw [z_beq ho2.1] at h3
  omega
section ZVHEAP
variable {cl : List vw_C} {FT : Nat → Nat → FieldType} {KXf : (Nat → Nat) → Nat → State → Heap → Prop} {TBL : List Cond} {MT : List zM} {y : zNL} {mm : zM} {K : zK} {rm : Nat × Nat} {good : Nat → List zNV → List zNV → List zNV → List (Int → Int) → Prop}
variable {pc : Nat} {L S : List zNV} {F : List zNV} {G : List (Int → Int)}
theorem zv_lsw (hB : zv_B cl FT KXf TBL MT y mm K rm good) {dflt : Int} {ps : Array (Int × Int)} {len : Nat} {a : Int} (hd : decode mm.2.1 pc = .ok (.lookupswitch dflt ps, len)) (hp : (ps.toList.zip (ps.toList.drop 1)).all (fun (a, next) => a.1 < next.1) = true) (k : zv_sw pc (fun t => good t L S F G) a dflt ps.toList) : good pc L (.inl a :: S) F G := by
  obtain ⟨p, l, e, R, s, m, args, below, meth, c, Q, OB, D, DA, sz, A, H0, Ts, cells, slots, ⟨hx, hb, hml, hD, hKS⟩, ⟨hsz, hXp, hX, -⟩, ⟨hwf, hinj, hge, hOB⟩, hg⟩ := hB
  refine (hg _ _ _ _ _).mpr fun H locs ls stk h1 h2 h3 h4 h5 => ?_
  obtain ⟨w, st, rfl, ⟨x, rfl, rfl⟩, h6⟩ := h5
  obtain ⟨t, t1, t2⟩ := zv_sw_ok k
  exact lv_lookup hx hb hd hp rfl (z_to_ok t1) ((hg _ _ _ _ _).mp t2 H locs ls _ h1 h2 h3 h4 h6)
theorem zv_tsw (hB : zv_B cl FT KXf TBL MT y mm K rm good) {dflt lo hi : Int} {offs : Array Int} {len : Nat} {a : Int} (hd : decode mm.2.1 pc = .ok (.tableswitch dflt lo hi offs, len)) (hp : (z_ile lo (hi + 1) && z_ile (hi + 1) (lo + offs.toList.length) && z_ile (lo + offs.toList.length) (hi + 1)) = true) (k : zv_sw pc (fun t => good t L S F G) a dflt (zv_tp lo offs.toList)) : good pc L (.inl a :: S) F G := by
  obtain ⟨p, l, e, R, s, m, args, below, meth, c, Q, OB, D, DA, sz, A, H0, Ts, cells, slots, ⟨hx, hb, hml, hD, hKS⟩, ⟨hsz, hXp, hX, -⟩, ⟨hwf, hinj, hge, hOB⟩, hg⟩ := hB
  refine (hg _ _ _ _ _).mpr fun H locs ls stk h1 h2 h3 h4 h5 => ?_
  obtain ⟨w, st, rfl, ⟨x, rfl, rfl⟩, h6⟩ := h5
  obtain ⟨t, t1, t2⟩ := zv_sw_ok k
  simp only [Bool.and_eq_true] at hp
  have p1 := z_ile_ok hp.1.1
  have p2 := z_ile_ok hp.1.2
  have p3 := z_ile_ok hp.2
  have kk := (hg _ _ _ _ _).mp t2 H locs ls _ h1 h2 h3 h4 h6
  by_cases ho : x.toInt < lo ∨ hi < x.toInt
  · rw [zv_tp_out (by omega)] at t1
    exact lv_tableOut hx hb hd ho (z_to_ok t1) kk
  · have hlt : (x.toInt - lo).toNat < offs.toList.length := by omega
    have hgo := List.getElem?_eq_getElem hlt
    rw [zv_tp_in hgo (by omega)] at t1
    exact lv_tableIn hx hb hd (by omega) (by omega) (off := offs.toList[(x.toInt - lo).toNat]) (by rw [← Array.getElem?_toList]; exact hgo) (z_to_ok t1) kk
theorem zv_getf (hB : zv_B cl FT KXf TBL MT y mm K rm good) {i c j : Nat} {v : Int} (hd : decode mm.2.1 pc = .ok (.getfield i, 3)) (hi : zv_fi K y i c = some j) (hl : zv_l F j = some (.inl v)) (k : -2147483648 ≤ v → v ≤ 2147483647 → good (pc + 3) L (.inl v :: S) F G) : good pc L (.inr c :: S) F G := by
  obtain ⟨p, l, e, R, s, m, args, below, meth, c, Q, OB, D, DA, sz, A, H0, Ts, cells, slots, ⟨hx, hb, hml, hD, hKS⟩, ⟨hsz, hXp, hX, -⟩, ⟨hwf, hinj, hge, hOB⟩, hg⟩ := hB
  refine (hg _ _ _ _ _).mpr fun H locs ls stk h1 h2 h3 h4 h5 => ?_
  obtain ⟨w, st, rfl, hw, h6⟩ := h5
  have hw : w = .ref (A _) := zv_w_r hw (zv_fi_lt hwf hi)
  subst hw
  obtain ⟨ci, kf, f1, f2⟩ := zv_fi_ok hi
  obtain ⟨r, wx, fx, r1, r2, r3, r4, r5⟩ := h1.2.1 _ f2
  rw [hl] at r4
  cases r4
  obtain ⟨x, rfl, rfl⟩ := r5 trivial
  exact z_getrow hx hb hKS.1 hD f1 r3 hd ((hg _ _ _ _ _).mp (k (z_lo x) (z_hi x)) H locs ls _ h1 h2 h3 h4 ⟨_, _, rfl, ⟨x, rfl, rfl⟩, h6⟩)
theorem zv_getq (hB : zv_B cl FT KXf TBL MT y mm K rm good) {i c j v : Nat} (hd : decode mm.2.1 pc = .ok (.getfield i, 3)) (hi : zv_fi K y i c = some j) (hl : zv_l F j = some (.inr v)) (hv : Nat.blt v 1000 = true) (k : good (pc + 3) L (.inr v :: S) F G) : good pc L (.inr c :: S) F G := by
  obtain ⟨p, l, e, R, s, m, args, below, meth, c, Q, OB, D, DA, sz, A, H0, Ts, cells, slots, ⟨hx, hb, hml, hD, hKS⟩, ⟨hsz, hXp, hX, -⟩, ⟨hwf, hinj, hge, hOB⟩, hg⟩ := hB
  refine (hg _ _ _ _ _).mpr fun H locs ls stk h1 h2 h3 h4 h5 => ?_
  obtain ⟨w, st, rfl, hw, h6⟩ := h5
  have hw : w = .ref (A _) := zv_w_r hw (zv_fi_lt hwf hi)
  subst hw
  obtain ⟨ci, kf, f1, f2⟩ := zv_fi_ok hi
  obtain ⟨r, wx, fx, r1, r2, r3, r4, r5⟩ := h1.2.1 _ f2
  rw [hl] at r4
  cases r4
  have hv5 : v < 5000 := by have := z_blt hv; omega
  have hwx : wx = .ref (A v) := zv_w_r (r5 (z_blt hv)) hv5
  subst hwx
  exact z_getrow hx hb hKS.1 hD f1 r3 hd ((hg _ _ _ _ _).mp k H locs ls _ h1 h2 h3 h4 ⟨_, _, rfl, zv_w_mk hv5, h6⟩)
theorem zv_getr (hB : zv_B cl FT KXf TBL MT y mm K rm good) {i c j : Nat} (hd : decode mm.2.1 pc = .ok (.getfield i, 3)) (hi : zv_fr K y i c = some j) (k : good (pc + 3) L (.inr j :: S) F G) : good pc L (.inr c :: S) F G := by
  obtain ⟨p, l, e, R, s, m, args, below, meth, c, Q, OB, D, DA, sz, A, H0, Ts, cells, slots, ⟨hx, hb, hml, hD, hKS⟩, ⟨hsz, hXp, hX, -⟩, ⟨hwf, hinj, hge, hOB⟩, hg⟩ := hB
  refine (hg _ _ _ _ _).mpr fun H locs ls stk h1 h2 h3 h4 h5 => ?_
  obtain ⟨w, st, rfl, hw, h6⟩ := h5
  have hw : w = .ref (A _) := zv_w_r hw ((zv_fr_lt hwf hi).1)
  subst hw
  obtain ⟨ci, kf, f1, f2⟩ := zv_fr_ok hi
  obtain ⟨r, r1, r2, r3⟩ := h1.2.2.1 _ f2
  exact z_getrow hx hb hKS.1 hD f1 r3 hd ((hg _ _ _ _ _).mp k H locs ls _ h1 h2 h3 h4 ⟨_, _, rfl, zv_w_mk (zv_fr_lt hwf hi).2, h6⟩)
theorem zv_S_set {A : Nat → Nat} {sz : Nat} {H0 H H1 : Heap} {locs : List Loc} {a k : Nat} (h : va_S (fun q => sz ≤ q) H0 H locs) (ha : sz ≤ a) (e2 : H1.size = H.size) (e3 : ∀ b : Nat, b ≠ a → H1[b]? = H[b]?) : va_S (fun q => sz ≤ q) H0 H1 (locs ++ [⟨a, k⟩]) := by
  refine ⟨by rw [e2]; exact h.1, fun q h1 h2 => ?_, fun q hq => ?_⟩
  · rw [e3 q (fun e => h2 (by rw [e]; exact ha))]; exact h.2.1 q h1 h2
  · rcases List.mem_append.mp hq with hq | hq
    · exact h.2.2 q hq
    · rw [List.mem_singleton.mp hq]; exact ha
theorem zv_putf (hB : zv_B cl FT KXf TBL MT y mm K rm good) {i c j : Nat} {v : Int} {u : zNV} {bl : Bool} (hd : decode mm.2.1 pc = .ok (.putfield i, 3)) (hi : zv_fi K y i c = some j) (hp : zv_pk cl FT K i = some bl) (hv : bl = true → 0 ≤ v ∧ v ≤ 1) (hl : zv_l F j = some u) (k : good (pc + 3) L S (zv_s F j (.inl v)) G) : good pc L (.inl v :: .inr c :: S) F G := by
  obtain ⟨p, l, e, R, s, m, args, below, meth, cc, Q, OB, D, DA, sz, A, H0, Ts, cells, slots, ⟨hx, hb, hml, hD, hKS⟩, ⟨hsz, hXp, hX, -⟩, ⟨hwf, hinj, hge, hOB⟩, hg⟩ := hB
  refine (hg _ _ _ _ _).mpr fun H locs ls stk h1 h2 h3 h4 h5 => ?_
  obtain ⟨w, st, rfl, ⟨x, rfl, rfl⟩, w2, st2, rfl, hw, h6⟩ := h5
  have hw : w2 = .ref (A _) := zv_w_r hw (zv_fi_lt hwf hi)
  subst hw
  unfold zv_pk at hp
  unfold zv_fi at hi
  cases hq : (k_FL K).find? (fun q => Nat.beq q.1 i) with
  | none => rw [hq] at hp; cases hp
  | some q =>
    rw [hq] at hp hi
    have hm := List.mem_of_find?_eq_some hq
    have hp0 := List.find?_some hq
    have hp0 : Nat.beq q.1 i = true := hp0
    obtain ⟨q1, ci, kf⟩ := q
    have e1 : q1 = i := z_beq hp0
    subst e1
    have hi : ((n_I y).find? (fun u => Nat.beq u.1 c && Nat.beq u.2.1 ci && Nat.beq u.2.2.1 kf)).map (fun u => u.2.2.2) = some j := hi
    cases hu : (n_I y).find? (fun u => Nat.beq u.1 c && Nat.beq u.2.1 ci && Nat.beq u.2.2.1 kf) with
    | none => rw [hu] at hi; cases hi
    | some z =>
      rw [hu] at hi
      cases hi
      have um := List.mem_of_find?_eq_some hu
      have up := List.find?_some hu
      simp only [Bool.and_eq_true] at up
      obtain ⟨z1, z2, z3, z4⟩ := z
      have e2 : z1 = c := z_beq up.1.1
      have e3 : z2 = ci := z_beq up.1.2
      have e4 : z3 = kf := z_beq up.2
      subst e2; subst e3; subst e4
      have hp : (match cl[z2]? with
        | some r => cond (r.2.1 z3).2.2.2 none (match FT z2 z3 with
          | .int => some false
          | .boolean => some true
          | _ => none)
        | none => none) = some bl := hp
      obtain ⟨hlt, o, ho, ho1, ho2⟩ := zv_wfIn hwf um
      obtain ⟨r, V, r1, r2⟩ := h1.1 o ho
      rw [ho1, ho2] at r2
      rw [ho2] at r1
      rw [r1] at hp
      have hp : cond (r.2.1 z3).2.2.2 none (match FT z2 z3 with
          | .int => some false
          | .boolean => some true
          | _ => none) = some bl := hp
      cases hf : (r.2.1 z3).2.2.2 with
      | true => rw [hf] at hp; cases hp
      | false =>
        rw [hf] at hp
        have hp : (match FT z2 z3 with
          | .int => some false
          | .boolean => some true
          | _ => none) = some bl := hp
        have hn : narrow (FT z2 z3) (.int x) = .int x ∧ fits (FT z2 z3) (.int x) = true := by
          split at hp
          · rename_i hty; rw [hty]; exact ⟨rfl, rfl⟩
          · rename_i hty
            cases hp
            obtain ⟨b1, b2⟩ := hv rfl
            rw [hty]
            have hx : x.toInt = 0 ∨ x.toInt = 1 := by omega
            rcases hx with hx | hx
            · have : x = 0 := z_int0 hx
              subst this
              exact ⟨rfl, rfl⟩
            · have : x = 1 := Int32.toInt_inj.mp (by rw [hx]; rfl)
              subst this
              exact ⟨rfl, rfl⟩
          · cases hp
        refine z_putrow hx hb hKS.1 hD hm r1 r2 (Or.inl hf) hn hd fun H1 cell g1 g2 g3 g4 g5 => ?_
        have g1 : H[A z1]? = some cell := g1
        have g2 : H1[A z1]? = some (cell.setSlot (D.2 z2 z3) (.int x)) := g2
        have hap := z_apart hKS.1 hD r1
        have hne : ∀ b, b < n_N y → b ≠ z1 → A b ≠ A z1 := fun b hb1 hb2 hb3 => hb2 (hinj _ _ hb1 hlt hb3)
        have hz3 : z3 < r.2.2 := by
          obtain ⟨r', x', f', x1, x2, x3⟩ := h1.2.1 _ um
          rw [r1] at x1; cases x1; exact x2
        have slk : ∀ (k2 : Nat) (w : Value), k2 < r.2.2 → k2 ≠ z3 → z_sl H (A z1) (D.2 z2 k2) w → z_sl H1 (A z1) (D.2 z2 k2) w := by
          intro k2 w hk2 hk3 ⟨cell2, y1, y2, y3⟩
          rw [g1] at y1
          cases y1
          exact ⟨_, g2, y2, by rw [slot_ne _ _ (fun h7 => hap k2 z3 hk2 hz3 hk3 h7.symm)]; exact y3⟩
        refine (hg _ _ _ _ _).mp k H1 _ ls st2 ⟨fun q hq => ?_, fun q hq => ?_, fun q hq => ?_, fun q hq => ?_⟩ (zv_frm_tr h2 ⟨g3, fun b hb1 => g4 b (fun e => hb1 z1 hlt e.symm), fun q hq r' k2 w hr hk2 hk3 hk4 => ?_⟩) (zv_S_set (A := A) h3 (hge _ hlt) g3 g4) h4 h6
        · obtain ⟨w1, w2, w3⟩ := zv_wfO hwf hq
          by_cases e : q.1 = z1
          · have : q.2 = z2 := w3 _ um e
            rw [e, this]
            exact ⟨r, _, r1, g5⟩
          · obtain ⟨r', V', x1, x2⟩ := h1.1 q hq
            exact ⟨r', V', x1, x2.kept (g4 _ (hne _ w1 e))⟩
        · obtain ⟨r', x', f', x1, x2, x3, x4, x5⟩ := h1.2.1 q hq
          obtain ⟨w1, w2⟩ := zv_wfI hwf hq um
          by_cases e : q.1 = z1
          · have e2 : q.2.1 = z2 := w2 e
            by_cases e3 : q.2.2.1 = z3
            · have e4 : q.2.2.2 = z4 := w1.mpr ⟨e, e3⟩
              refine ⟨r', .int x, .inl x.toInt, x1, x2, ?_, ?_, fun _ => ⟨x, rfl, rfl⟩⟩
              · rw [e, e2, e3]
                obtain ⟨cell2, y1, y2, y3⟩ := g5
                refine ⟨cell2, y1, y3.1, ?_⟩
                rw [y3.2 _ hz3]
                simp [updV]
              · rw [e4]; exact zv_ls_eq hl
            · refine ⟨r', x', f', x1, x2, ?_, ?_, x5⟩
              · rw [e2] at x1
                rw [r1] at x1
                cases x1
                rw [e, e2] at x3 ⊢
                exact slk _ _ x2 e3 x3
              · rw [zv_ls_ne (fun h7 => e3 (w1.mp h7.symm).2)]; exact x4
          · refine ⟨r', x', f', x1, x2, z_sl_kept x3 (g4 _ (hne _ (zv_wfIn hwf hq).1 e)), ?_, x5⟩
            rw [zv_ls_ne (fun h7 => e (w1.mp h7.symm).1)]; exact x4
        · obtain ⟨r', x1, x2, x3⟩ := h1.2.2.1 q hq
          obtain ⟨w1, w2⟩ := zv_wfIR hwf um hq
          refine ⟨r', x1, x2, ?_⟩
          by_cases e : q.1 = z1
          · have e2 : q.2.1 = z2 := (w2 e.symm).symm
            rw [e2] at x1
            rw [r1] at x1
            cases x1
            rw [e, e2] at x3 ⊢
            exact slk _ _ x2 (fun h7 => w1 ⟨e.symm, h7.symm⟩) x3
          · exact z_sl_kept x3 (g4 _ (hne _ (zv_wfR hwf hq).1 e))
        · obtain ⟨f, g, x1, x2, x3⟩ := h1.2.2.2 q hq
          obtain ⟨w1, w2, w3, w4⟩ := zv_wfA hwf hq
          exact ⟨f, g, by rw [g4 _ (hne _ w1 (w3 _ um))]; exact x1, x2, x3⟩
        · by_cases e : q.1 = z1
          · have e2 : q.2 = z2 := (zv_wfO hwf hq).2.2 _ um e
            rw [e2] at hr
            rw [r1] at hr
            cases hr
            rw [e, e2] at hk4 ⊢
            exact slk _ _ hk2 (fun h7 => hk3 _ um e.symm h7.symm) hk4
          · exact z_sl_kept hk4 (g4 _ (hne _ (zv_wfO hwf hq).1 e))
theorem zv_putq (hB : zv_B cl FT KXf TBL MT y mm K rm good) {i c j v : Nat} {u : zNV} (hd : decode mm.2.1 pc = .ok (.putfield i, 3)) (hi : zv_fi K y i c = some j) (hp : zv_pq cl FT K i = some true) (hv : v < 1000) (hl : zv_l F j = some u) (k : good (pc + 3) L S (zv_s F j (.inr v)) G) : good pc L (.inr v :: .inr c :: S) F G := by
  obtain ⟨p, l, e, R, s, m, args, below, meth, cc, Q, OB, D, DA, sz, A, H0, Ts, cells, slots, ⟨hx, hb, hml, hD, hKS⟩, ⟨hsz, hXp, hX, -⟩, ⟨hwf, hinj, hge, hOB⟩, hg⟩ := hB
  refine (hg _ _ _ _ _).mpr fun H locs ls stk h1 h2 h3 h4 h5 => ?_
  obtain ⟨w, st, rfl, hw0, w2, st2, rfl, hw, h6⟩ := h5
  have hw : w2 = .ref (A _) := zv_w_r hw (zv_fi_lt hwf hi)
  have hw0 : w = .ref (A v) := zv_w_r hw0 (by omega)
  subst hw
  subst hw0
  unfold zv_pq at hp
  unfold zv_fi at hi
  cases hq : (k_FL K).find? (fun q => Nat.beq q.1 i) with
  | none => rw [hq] at hp; cases hp
  | some q =>
    rw [hq] at hp hi
    have hm := List.mem_of_find?_eq_some hq
    have hp0 := List.find?_some hq
    have hp0 : Nat.beq q.1 i = true := hp0
    obtain ⟨q1, ci, kf⟩ := q
    have e1 : q1 = i := z_beq hp0
    subst e1
    have hi : ((n_I y).find? (fun u => Nat.beq u.1 c && Nat.beq u.2.1 ci && Nat.beq u.2.2.1 kf)).map (fun u => u.2.2.2) = some j := hi
    cases hu : (n_I y).find? (fun u => Nat.beq u.1 c && Nat.beq u.2.1 ci && Nat.beq u.2.2.1 kf) with
    | none => rw [hu] at hi; cases hi
    | some z =>
      rw [hu] at hi
      cases hi
      have um := List.mem_of_find?_eq_some hu
      have up := List.find?_some hu
      simp only [Bool.and_eq_true] at up
      obtain ⟨z1, z2, z3, z4⟩ := z
      have e2 : z1 = c := z_beq up.1.1
      have e3 : z2 = ci := z_beq up.1.2
      have e4 : z3 = kf := z_beq up.2
      subst e2; subst e3; subst e4
      have hp : (match cl[z2]? with
        | some r => cond (r.2.1 z3).2.2.2 none (match FT z2 z3 with
          | .object _ => some true
          | .array _ => some true
          | _ => none)
        | none => none) = some true := hp
      obtain ⟨hlt, o, ho, ho1, ho2⟩ := zv_wfIn hwf um
      obtain ⟨r, V, r1, r2⟩ := h1.1 o ho
      rw [ho1, ho2] at r2
      rw [ho2] at r1
      rw [r1] at hp
      have hp : cond (r.2.1 z3).2.2.2 none (match FT z2 z3 with
          | .object _ => some true
          | .array _ => some true
          | _ => none) = some true := hp
      cases hf : (r.2.1 z3).2.2.2 with
      | true => rw [hf] at hp; cases hp
      | false =>
        rw [hf] at hp
        have hp : (match FT z2 z3 with
          | .object _ => some true
          | .array _ => some true
          | _ => none) = some true := hp
        have hn : narrow (FT z2 z3) (.ref (A v)) = .ref (A v) ∧ fits (FT z2 z3) (.ref (A v)) = true := by
          split at hp
          · rename_i hty; rw [hty]; exact ⟨rfl, rfl⟩
          · rename_i hty; rw [hty]; exact ⟨rfl, rfl⟩
          · cases hp
        refine z_putrow hx hb hKS.1 hD hm r1 r2 (Or.inl hf) hn hd fun H1 cell g1 g2 g3 g4 g5 => ?_
        have g1 : H[A z1]? = some cell := g1
        have g2 : H1[A z1]? = some (cell.setSlot (D.2 z2 z3) (.ref (A v))) := g2
        have hap := z_apart hKS.1 hD r1
        have hne : ∀ b, b < n_N y → b ≠ z1 → A b ≠ A z1 := fun b hb1 hb2 hb3 => hb2 (hinj _ _ hb1 hlt hb3)
        have hz3 : z3 < r.2.2 := by
          obtain ⟨r', x', f', x1, x2, x3⟩ := h1.2.1 _ um
          rw [r1] at x1; cases x1; exact x2
        have slk : ∀ (k2 : Nat) (w : Value), k2 < r.2.2 → k2 ≠ z3 → z_sl H (A z1) (D.2 z2 k2) w → z_sl H1 (A z1) (D.2 z2 k2) w := by
          intro k2 w hk2 hk3 ⟨cell2, y1, y2, y3⟩
          rw [g1] at y1
          cases y1
          exact ⟨_, g2, y2, by rw [slot_ne _ _ (fun h7 => hap k2 z3 hk2 hz3 hk3 h7.symm)]; exact y3⟩
        refine (hg _ _ _ _ _).mp k H1 _ ls st2 ⟨fun q hq => ?_, fun q hq => ?_, fun q hq => ?_, fun q hq => ?_⟩ (zv_frm_tr h2 ⟨g3, fun b hb1 => g4 b (fun e => hb1 z1 hlt e.symm), fun q hq r' k2 w hr hk2 hk3 hk4 => ?_⟩) (zv_S_set (A := A) h3 (hge _ hlt) g3 g4) h4 h6
        · obtain ⟨w1, w2, w3⟩ := zv_wfO hwf hq
          by_cases e : q.1 = z1
          · have : q.2 = z2 := w3 _ um e
            rw [e, this]
            exact ⟨r, _, r1, g5⟩
          · obtain ⟨r', V', x1, x2⟩ := h1.1 q hq
            exact ⟨r', V', x1, x2.kept (g4 _ (hne _ w1 e))⟩
        · obtain ⟨r', x', f', x1, x2, x3, x4, x5⟩ := h1.2.1 q hq
          obtain ⟨w1, w2⟩ := zv_wfI hwf hq um
          by_cases e : q.1 = z1
          · have e2 : q.2.1 = z2 := w2 e
            by_cases e3 : q.2.2.1 = z3
            · have e4 : q.2.2.2 = z4 := w1.mpr ⟨e, e3⟩
              refine ⟨r', .ref (A v), .inr v, x1, x2, ?_, ?_, fun _ => zv_w_mk (by omega)⟩
              · rw [e, e2, e3]
                obtain ⟨cell2, y1, y2, y3⟩ := g5
                refine ⟨cell2, y1, y3.1, ?_⟩
                rw [y3.2 _ hz3]
                simp [updV]
              · rw [e4]; exact zv_ls_eq hl
            · refine ⟨r', x', f', x1, x2, ?_, ?_, x5⟩
              · rw [e2] at x1
                rw [r1] at x1
                cases x1
                rw [e, e2] at x3 ⊢
                exact slk _ _ x2 e3 x3
              · rw [zv_ls_ne (fun h7 => e3 (w1.mp h7.symm).2)]; exact x4
          · refine ⟨r', x', f', x1, x2, z_sl_kept x3 (g4 _ (hne _ (zv_wfIn hwf hq).1 e)), ?_, x5⟩
            rw [zv_ls_ne (fun h7 => e (w1.mp h7.symm).1)]; exact x4
        · obtain ⟨r', x1, x2, x3⟩ := h1.2.2.1 q hq
          obtain ⟨w1, w2⟩ := zv_wfIR hwf um hq
          refine ⟨r', x1, x2, ?_⟩
          by_cases e : q.1 = z1
          · have e2 : q.2.1 = z2 := (w2 e.symm).symm
            rw [e2] at x1
            rw [r1] at x1
            cases x1
            rw [e, e2] at x3 ⊢
            exact slk _ _ x2 (fun h7 => w1 ⟨e.symm, h7.symm⟩) x3
          · exact z_sl_kept x3 (g4 _ (hne _ (zv_wfR hwf hq).1 e))
        · obtain ⟨f, g, x1, x2, x3⟩ := h1.2.2.2 q hq
          obtain ⟨w1, w2, w3, w4⟩ := zv_wfA hwf hq
          exact ⟨f, g, by rw [g4 _ (hne _ w1 (w3 _ um))]; exact x1, x2, x3⟩
        · by_cases e : q.1 = z1
          · have e2 : q.2 = z2 := (zv_wfO hwf hq).2.2 _ um e
            rw [e2] at hr
            rw [r1] at hr
            cases hr
            rw [e, e2] at hk4 ⊢
            exact slk _ _ hk2 (fun h7 => hk3 _ um e.symm h7.symm) hk4
          · exact z_sl_kept hk4 (g4 _ (hne _ (zv_wfO hwf hq).1 e))
end ZVHEAP
