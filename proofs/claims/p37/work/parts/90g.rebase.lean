/-! At the head: names are given anew, x and m go to other types with the same fields. -/
def zu_ok (tA uA : Nat) (c : zV) : Bool := match c with
  | .inr (.inl u) => !(Nat.beq u tA) && !(Nat.beq u uA)
  | .inr (.inr (k + 1)) => Nat.blt (z_nm k) 20 && (Nat.blt k 2000 || (!(Nat.beq (z_kt k) tA) && !(Nat.beq (z_kt k) uA)))
  | _ => true
def zu_tys (TY : List zTy) (tA uA : Nat) : Bool := TY.all (fun ty => match ty with
  | .inl o => o.2.all (zu_ok tA uA)
  | .inr q => q.2.2.all (fun g => zu_ok tA uA g.2))
def zu_T2 (T : zTp) (a b tB uB : Nat) : zTp := fun q => if q = a then some tB else if q = b then some uB else T q
/-- the head of the loop: x and m by their names -/
def zu_head (N : Int) (c : Nat × Nat) (t u : Nat) : zS := ([(0, 0), (1, 3), (2, 4), (3, 2)], [], 5, [(0, .inr (.inr 1)), (1, .inl (0, N)), (2, .inl (0, N)), (3, z_zn 15 t), (4, z_zn 16 u)], [], [], [], [], c, 0)
/-- what is claimed behind it: by a table -/
def zu_clb (tA uA tB uB : Nat) (sg : Nat → Nat) : Bool := zc_CL.all (fun q => (Nat.beq q.2.2.2.2.1 15 && !(Nat.beq q.2.2.2.2.2 tB)) || (Nat.beq q.2.2.2.2.1 16 && !(Nat.beq q.2.2.2.2.2 uB)) ||
  (Nat.blt q.2.2.2.1 30 && zc_CL.any (fun p => (Nat.beq p.2.1 q.2.1 && ((Nat.beq q.2.1 15 && Nat.beq q.1 tB) || (Nat.beq q.2.1 16 && Nat.beq q.1 uB) || (Nat.blt q.2.1 20 && (Nat.beq p.1 q.1 && (!(Nat.beq q.1 tA) && !(Nat.beq q.1 uA)))))) && (zc_seq p.2.2.1 q.2.2.1 && Nat.beq p.2.2.2.1 (sg q.2.2.2.1)) && (Nat.beq p.2.2.2.2.1 q.2.2.2.2.1 && ((Nat.beq q.2.2.2.2.1 15 && Nat.beq p.2.2.2.2.2 tA) || (Nat.beq q.2.2.2.2.1 16 && Nat.beq p.2.2.2.2.2 uA))))))
section ZUBASE
variable {OB OB2 : Nat → Nat} {D : va_G} {DA : Nat → ClassId} {cl : List vw_C} {TY : List zTy} {PHI : List (List Nat)} {sz : Nat} {T : zTp} {H0 H : Heap} {env0 env : List Value} {nL : Nat} {locs : List Loc} {ls : Array Slot} {stk : List Value} {tA uA tB uB : Nat}
theorem zu_T2_a {a b : Nat} : zu_T2 T a b tB uB a = some tB := by unfold zu_T2; rw [if_pos rfl]
theorem zu_T2_b {a b : Nat} (h : b ≠ a) : zu_T2 T a b tB uB b = some uB := by unfold zu_T2; rw [if_neg h, if_pos rfl]
theorem zu_T2_n {a b q : Nat} (h : q ≠ a) (h2 : q ≠ b) : zu_T2 T a b tB uB q = T q := by unfold zu_T2; rw [if_neg h, if_neg h2]
theorem zu_T2_k {q t : Nat} (h15 : T (OB 15) = some tA) (h16 : T (OB 16) = some uA) (hq : T q = some t) (n1 : t ≠ tA) (n2 : t ≠ uA) : zu_T2 T (OB 15) (OB 16) tB uB q = some t := by
  rw [zu_T2_n (fun e => by rw [e, h15] at hq; cases hq; exact n1 rfl) (fun e => by rw [e, h16] at hq; cases hq; exact n2 rfl)]
  exact hq
theorem zu_nb {a b : Nat} (h : (!(Nat.beq a b)) = true) : a ≠ b := fun e => by
  rw [e, Nat.beq_refl] at h
  cases h
theorem zu_v {c : zV} {v : Value} (hag : ∀ n, n < 20 → OB2 n = OB n) (h15 : T (OB 15) = some tA) (h16 : T (OB 16) = some uA) (h : zu_ok tA uA c = true) (hv : z_v OB T c v) : z_v OB2 (zu_T2 T (OB 15) (OB 16) tB uB) c v := by
  match c, h, hv with
  | .inl r, _, hv => exact hv
  | .inr (.inl u), h, ⟨a, e, ha⟩ =>
    have h : (!(Nat.beq u tA) && !(Nat.beq u uA)) = true := h
    rw [Bool.and_eq_true] at h
    exact ⟨a, e, zu_T2_k h15 h16 ha (zu_nb h.1) (zu_nb h.2)⟩
  | .inr (.inr 0), _, hv => exact hv
  | .inr (.inr (k + 1)), h, hv =>
    have h : (Nat.blt (z_nm k) 20 && (Nat.blt k 2000 || (!(Nat.beq (z_kt k) tA) && !(Nat.beq (z_kt k) uA)))) = true := h
    rw [Bool.and_eq_true] at h
    have e1 := hag _ (z_blt h.1)
    obtain ⟨v1, v2⟩ := (show zc_kn OB T k v from hv)
    refine ⟨by rw [e1]; exact v1, fun hk => ?_⟩
    rw [e1]
    have h2 := h.2
    rw [hk, Bool.false_or, Bool.and_eq_true] at h2
    exact zu_T2_k h15 h16 (v2 hk) (zu_nb h2.1) (zu_nb h2.2)
theorem zu_cell {q u : Nat} {ty : zTy} (hag : ∀ n, n < 20 → OB2 n = OB n) (h15 : T (OB 15) = some tA) (h16 : T (OB 16) = some uA) (hf : zu_tys TY tA uA = true) (hty : TY[u]? = some ty) (hc : z_cell OB D DA cl T H q ty) : z_cell OB2 D DA cl (zu_T2 T (OB 15) (OB 16) tB uB) H q ty := by
  have hm := List.all_eq_true.mp hf _ (List.mem_of_getElem? hty)
  match ty, hm, hc with
  | .inl (ci, fl), hm, ⟨r, q1, q2, V, q3, q4⟩ => exact ⟨r, q1, q2, V, q3, fun k c hk => zu_v hag h15 h16 (List.all_eq_true.mp hm c (List.mem_of_getElem? hk)) (q4 k c hk)⟩
  | .inr o, hm, ⟨n, f, z1, z2, z3, z4, z5⟩ => exact ⟨n, f, z1, z2, z3, z4, fun g hg j j1 j2 j3 => zu_v hag h15 h16 (List.all_eq_true.mp hm g hg) (z5 g hg j j1 j2 j3)⟩
theorem zu_old {q t : Nat} (h15 : T (OB 15) = some tA) (h16 : T (OB 16) = some uA) (eA : TY[tB]? = TY[tA]?) (eU : TY[uB]? = TY[uA]?) (h : zu_T2 T (OB 15) (OB 16) tB uB q = some t) : ∃ t0, T q = some t0 ∧ TY[t]? = TY[t0]? := by
  by_cases e : q = OB 15
  · subst e
    rw [zu_T2_a] at h
    cases h
    exact ⟨tA, h15, eA⟩
  · by_cases e2 : q = OB 16
    · subst e2
      rw [zu_T2_b e] at h
      cases h
      exact ⟨uA, h16, eU⟩
    · rw [zu_T2_n e e2] at h
      exact ⟨t, h, rfl⟩
theorem zu_ht (hag : ∀ n, n < 20 → OB2 n = OB n) (h15 : T (OB 15) = some tA) (h16 : T (OB 16) = some uA) (eA : TY[tB]? = TY[tA]?) (eU : TY[uB]? = TY[uA]?) (hf : zu_tys TY tA uA = true) (h : z_ht OB D DA cl TY T H) (hcl : zj_cl OB2 D (zu_T2 T (OB 15) (OB 16) tB uB) H) : z_ht OB2 D DA cl TY (zu_T2 T (OB 15) (OB 16) tB uB) H := by
  have some_ : ∀ b, (T b).isSome = true → (zu_T2 T (OB 15) (OB 16) tB uB b).isSome = true := by
    intro b hb
    unfold zu_T2
    split
    · rfl
    · split
      · rfl
      · exact hb
  refine ⟨fun a t ha => ?_, fun a t ci fl ha hty => ?_, fun a a' t t' ci fl fl' h1 h2 h3 h4 k hk b h5 h6 => ?_, hcl⟩
  · obtain ⟨t0, k1, k2⟩ := zu_old h15 h16 eA eU ha
    obtain ⟨ty, y1, y2⟩ := h.1 a t0 k1
    exact ⟨ty, by rw [k2]; exact y1, zu_cell hag h15 h16 hf y1 y2⟩
  · obtain ⟨t0, k1, k2⟩ := zu_old h15 h16 eA eU ha
    exact zj_kept (h.2.1 a t0 ci fl k1 (by rw [← k2]; exact hty)) some_ (fun _ _ _ h => h) (fun _ _ _ _ _ => rfl)
  · obtain ⟨t0, k1, k2⟩ := zu_old h15 h16 eA eU h1
    obtain ⟨t1, k3, k4⟩ := zu_old h15 h16 eA eU h3
    exact h.2.2.1 a a' t0 t1 ci fl fl' k1 (by rw [← k2]; exact h2) k3 (by rw [← k4]; exact h4) k hk b h5 h6
theorem zu_mem (hag : ∀ n, n < 20 → OB2 n = OB n) (h15 : T (OB 15) = some tA) (h16 : T (OB 16) = some uA) (eA : TY[tB]? = TY[tA]?) (eU : TY[uB]? = TY[uA]?) (hf : zu_tys TY tA uA = true) (h : z_mem OB D DA cl TY PHI sz none false (fun _ => none) H0 T H locs 0) (hcl : zj_cl OB2 D (zu_T2 T (OB 15) (OB 16) tB uB) H) : z_mem OB2 D DA cl TY PHI sz none false (fun _ => none) H0 (zu_T2 T (OB 15) (OB 16) tB uB) H locs 0 := by
  obtain ⟨k1, ⟨k2, -, -⟩, -, k4, k5⟩ := h
  refine ⟨zu_ht hag h15 h16 eA eU hf k1 hcl, ⟨fun a t ha => ?_, fun h => (by cases h), fun q w c f h1 => (by cases h1)⟩, fun a t ha => (by cases ha), fun q h1 h2 h3 => ?_, k5⟩
  · obtain ⟨t0, g1, -⟩ := zu_old h15 h16 eA eU ha
    exact k2 a t0 g1
  · obtain ⟨g1, g2⟩ := k4 q h1 h2 h3
    exact ⟨by rw [zu_T2_n (fun e => by rw [e, h15] at g1; cases g1) (fun e => by rw [e, h16] at g1; cases g1)]; exact g1, g2⟩
theorem zu_reb {N : Int} {cc : Nat × Nat} (t1 : tA < 500) (t2 : uA < 500) (t3 : tB < 500) (t4 : uB < 500) (hne : tA ≠ uA) (hag : ∀ n, n < 20 → OB2 n = OB n) (eA : TY[tB]? = TY[tA]?) (eU : TY[uB]? = TY[uA]?) (hf : zu_tys TY tA uA = true) (hcl : T (OB 15) = some tA → T (OB 16) = some uA → OB 16 ≠ OB 15 → zj_cl OB D T H → zj_cl OB2 D (zu_T2 T (OB 15) (OB 16) tB uB) H)
    (hs : z_sat OB D DA cl TY PHI sz none false (fun _ => none) H0 env0 nL (zu_head N cc tA uA) T H locs env ls stk) : ∃ T2, z_sat OB2 D DA cl TY PHI sz none false (fun _ => none) H0 env0 nL (zu_head N cc tB uB) T2 H locs env ls stk := by
  obtain ⟨h1, h2, h3, h4, h5, h6, h7, h8, h9, hm⟩ := hs
  obtain ⟨v0, e0, f0⟩ := h5 (0, .inr (.inr 1)) (List.mem_of_getElem? (i := 0) rfl)
  obtain ⟨v1, e1, f1⟩ := h5 (1, .inl (0, N)) (List.mem_of_getElem? (i := 1) rfl)
  obtain ⟨v2, e2, f2⟩ := h5 (2, .inl (0, N)) (List.mem_of_getElem? (i := 2) rfl)
  obtain ⟨v3, e3, f3⟩ := h5 (3, z_zn 15 tA) (List.mem_of_getElem? (i := 3) rfl)
  obtain ⟨v4, e4, f4⟩ := h5 (4, z_zn 16 uA) (List.mem_of_getElem? (i := 4) rfl)
  obtain ⟨g1, g2⟩ := z_zn_g t1 f3
  obtain ⟨g3, g4⟩ := z_zn_g t2 f4
  have hdf : OB 16 ≠ OB 15 := fun e => by rw [e, g2] at g4; exact hne (Option.some.inj g4)
  refine ⟨zu_T2 T (OB 15) (OB 16) tB uB, h1, h2, h3, h4, fun q hq => ?_, fun q hq => absurd hq List.not_mem_nil, fun q hq => absurd hq List.not_mem_nil, fun q hq => absurd hq List.not_mem_nil, trivial, zu_mem hag g2 g4 eA eU hf hm (hcl g2 g4 hdf hm.1.2.2.2)⟩
  have hq : q ∈ [((0 : Nat), (Sum.inr (.inr 1) : zV)), (1, .inl (0, N)), (2, .inl (0, N)), (3, z_zn 15 tB), (4, z_zn 16 uB)] := hq
  rcases List.mem_cons.mp hq with rfl | hq
  · refine ⟨v0, e0, ?_, fun h => absurd h (by decide)⟩
    have : v0 = .ref (OB 0) := f0.1
    show v0 = .ref (OB2 0)
    rw [hag 0 (by omega)]; exact this
  rcases List.mem_cons.mp hq with rfl | hq
  · exact ⟨v1, e1, f1⟩
  rcases List.mem_cons.mp hq with rfl | hq
  · exact ⟨v2, e2, f2⟩
  rcases List.mem_cons.mp hq with rfl | hq
  · exact ⟨v3, e3, z_zn_v t3 (by rw [hag 15 (by omega)]; exact g1) (by rw [hag 15 (by omega)]; exact zu_T2_a)⟩
  rcases List.mem_cons.mp hq with rfl | hq
  · exact ⟨v4, e4, z_zn_v t4 (by rw [hag 16 (by omega)]; exact g3) (by rw [hag 16 (by omega)]; exact zu_T2_b hdf)⟩
  cases hq
/-- claims by the table -/
theorem zu_cl {sg : Nat → Nat} (h : zu_clb tA uA tB uB sg = true) (hag : ∀ n, n < 20 → OB2 n = OB n) (hsg : ∀ v, v < 30 → OB2 v = OB (sg v)) (h15 : T (OB 15) = some tA) (h16 : T (OB 16) = some uA) (hdf : OB 16 ≠ OB 15) (hc : zj_cl OB D T H) : zj_cl OB2 D (zu_T2 T (OB 15) (OB 16) tB uB) H := by
  intro q hq hT
  have h1 := List.all_eq_true.mp h q hq
  rw [Bool.or_eq_true, Bool.or_eq_true] at h1
  have e15 := hag 15 (by omega)
  have e16 := hag 16 (by omega)
  rcases h1 with (h1 | h1) | h1
  · rw [Bool.and_eq_true] at h1
    rw [z_beq h1.1, e15, zu_T2_a] at hT
    exact absurd (Option.some.inj hT).symm (zu_nb h1.2)
  · rw [Bool.and_eq_true] at h1
    rw [z_beq h1.1, e16, zu_T2_b hdf] at hT
    exact absurd (Option.some.inj hT).symm (zu_nb h1.2)
  · rw [Bool.and_eq_true] at h1
    obtain ⟨h2, h4⟩ := h1
    obtain ⟨p, hp, h5⟩ := List.any_eq_true.mp h4
    rw [Bool.and_eq_true, Bool.and_eq_true, Bool.and_eq_true, Bool.and_eq_true, Bool.and_eq_true] at h5
    obtain ⟨⟨⟨n1, h3⟩, n3, n4⟩, n5, n6⟩ := h5
    have efl : p.2.2.2.2.1 = q.2.2.2.2.1 := z_beq n5
    have en : p.2.1 = q.2.1 := z_beq n1
    have hTp : T (OB p.2.2.2.2.1) = some p.2.2.2.2.2 := by
      rw [Bool.or_eq_true, Bool.and_eq_true, Bool.and_eq_true] at n6
      rcases n6 with ⟨n7, n8⟩ | ⟨n7, n8⟩
      · rw [efl, z_beq n7, z_beq n8]; exact h15
      · rw [efl, z_beq n7, z_beq n8]; exact h16
    obtain ⟨k1, k2⟩ := hc p hp hTp
    rw [en] at k1 k2
    rw [zc_seq_ok n3, z_beq n4, ← hsg _ (z_blt h2)] at k2
    rw [Bool.or_eq_true, Bool.or_eq_true] at h3
    rcases h3 with (h3 | h3) | h3
    · rw [Bool.and_eq_true] at h3
      have e := z_beq h3.1
      rw [e] at k2 ⊢
      rw [e15]
      exact ⟨by rw [z_beq h3.2]; exact zu_T2_a, k2⟩
    · rw [Bool.and_eq_true] at h3
      have e := z_beq h3.1
      rw [e] at k2 ⊢
      rw [e16]
      exact ⟨by rw [z_beq h3.2]; exact zu_T2_b hdf, k2⟩
    · rw [Bool.and_eq_true, Bool.and_eq_true, Bool.and_eq_true] at h3
      obtain ⟨h6, h7, h8, h9⟩ := h3
      rw [hag _ (z_blt h6)]
      rw [z_beq h7] at k1
      exact ⟨zu_T2_k h15 h16 k1 (zu_nb h8) (zu_nb h9), k2⟩
end ZUBASE
