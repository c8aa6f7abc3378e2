/-! The first head. -/
def zu_nms (OB : Nat → Nat) (a10 a11 a12 a13 a14 a15 a16 : Nat) (n : Nat) : Nat := match n with
  | 10 => a10
  | 11 => a11
  | 12 => a12
  | 13 => a13
  | 14 => a14
  | 15 => a15
  | 16 => a16
  | n => cond (Nat.blt n 10) (OB n) 0
theorem zu_nms_lo {OB : Nat → Nat} {a10 a11 a12 a13 a14 a15 a16 : Nat} : ∀ n, n < 10 → zu_nms OB a10 a11 a12 a13 a14 a15 a16 n = OB n := by
  intro n hn
  match n, hn with
  | 0, _ => rfl
  | 1, _ => rfl
  | 2, _ => rfl
  | 3, _ => rfl
  | 4, _ => rfl
  | 5, _ => rfl
  | 6, _ => rfl
  | 7, _ => rfl
  | 8, _ => rfl
  | 9, _ => rfl
section ZUFIRST2
variable {OB : Nat → Nat} {D : va_G} {DA : Nat → ClassId} {cl : List vw_C} {TY : List zTy} {PHI : List (List Nat)} {sz : Nat} {T : zTp} {H0 H : Heap} {env0 env : List Value} {nL : Nat} {locs : List Loc} {ls : Array Slot} {stk : List Value} {tA uA tB uB : Nat}
theorem zu_first {N : Int} {cc : Nat × Nat} {fx fm ph s0 s1 n0 n1 n2 S K NW KA ek0 ek2 : Nat} {flF flM flA flB flU flV fs0 fs1 : List zV} {sg0 sg2 : List ((Nat × Nat) × zV)}
    (hp : z_phok TY PHI ph = true) (eX : z_phi PHI ph fx = tA) (eM : z_phi PHI ph fm = uA)
    (hlo : (List.range TY.length).all (fun t => match TY[z_phi PHI ph t]? with
      | some ty => zu_lot ty
      | none => false) = true)
    (hfl : zc_CL.all (fun q => (List.range TY.length).all (fun t => !(Nat.beq (z_phi PHI ph t) q.2.2.2.2.2))) = true)
    (tyA : TY[tA]? = some (.inl (0, flA))) (tyB : TY[tB]? = some (.inl (0, flB))) (tyU : TY[uA]? = some (.inl (12, flU))) (tyV : TY[uB]? = some (.inl (12, flV)))
    (hfx : zu_fx flB flA [(0, 10), (1, 11)] tA uA = true) (hfm : zu_fx flV flU [(0, 12), (1, 13), (2, 14)] tA uA = true) (htys : zu_tys TY tA uA = true) (hne : tA ≠ uA) (b1 : tB < 500) (b2 : uB < 500)
    (tyFx : TY[fx]? = some (.inl (0, flF))) (f0 : flF[0]? = some (.inr (.inl s0))) (f1 : flF[1]? = some (.inr (.inl s1))) (f5 : flF[5]? = some (.inl (0, 0)))
    (tyS0 : TY[s0]? = some (.inl (1, fs0))) (fs00 : fs0[0]? = some (.inl (0, 0))) (tyS1 : TY[s1]? = some (.inl (1, fs1))) (fs10 : fs1[0]? = some (.inl (0, 0)))
    (tyFm : TY[fm]? = some (.inl (12, flM))) (g0 : flM[0]? = some (.inr (.inl n0))) (g1 : flM[1]? = some (.inr (.inl n1))) (g2 : flM[2]? = some (.inr (.inl n2))) (g63 : flM[63]? = some (.inl (0, 0)))
    (tyN0 : TY[n0]? = some (.inr (ek0, (422, 422), sg0))) (hsg0 : sg0.any (fun g => Nat.ble g.1.1 126 && Nat.ble 126 g.1.2 && (match g.2 with
      | .inl r => z_ile 0 r.1 && z_ile r.2 0
      | .inr _ => false)) = true)
    (tyN2 : TY[n2]? = some (.inr (ek2, (422, 422), sg2))) (hsg2 : sg2.any (fun g => Nat.ble g.1.1 126 && Nat.ble 126 g.1.2 && (match g.2 with
      | .inl r => z_ile 0 r.1 && z_ile r.2 0
      | .inr _ => false)) = true)
    (eS : z_phi PHI ph s0 = S) (eK : z_phi PHI ph s1 = K) (eN : z_phi PHI ph n0 = NW) (eA : z_phi PHI ph n2 = KA) (hS : (S ≠ tA ∧ S ≠ uA) ∧ (K ≠ tA ∧ K ≠ uA) ∧ (NW ≠ tA ∧ NW ≠ uA) ∧ (KA ≠ tA ∧ KA ≠ uA))
    (hclq : ∀ q ∈ zc_CL, (q.2.2.2.2.1 = 15 ∧ q.2.2.2.2.2 ≠ tB) ∨ (q.2.2.2.2.1 = 16 ∧ q.2.2.2.2.2 ≠ uB) ∨ q = (S, 10, .inl (1, 0), 20, 15, tB) ∨ q = (K, 11, .inl (1, 0), 21, 15, tB) ∨ q = (tB, 15, .inl (0, 5), 22, 15, tB) ∨ q = (NW, 12, .inr 126, 20, 16, uB) ∨ q = (KA, 14, .inr 126, 21, 16, uB) ∨ q = (uB, 16, .inl (12, 63), 22, 16, uB))
    (hs : z_sat OB D DA cl TY PHI sz none false (fun _ => none) H0 env0 nL (zu_headF N cc fx fm) T H locs env ls stk) : ∃ OB2 T2, (∀ n, n < 10 → OB2 n = OB n) ∧ z_sat OB2 D DA cl TY PHI sz none false (fun _ => none) H0 env0 nL (zu_head N cc tB uB) T2 H locs env ls stk := by
  obtain ⟨h1, h2, h3, h4, h5, h6, h7, h8, h9, hm⟩ := hs
  obtain ⟨v0, e0, k0⟩ := h5 (0, .inr (.inr 1)) (List.mem_of_getElem? (i := 0) rfl)
  obtain ⟨v1, e1, k1⟩ := h5 (1, .inl (0, N)) (List.mem_of_getElem? (i := 1) rfl)
  obtain ⟨v2, e2, k2⟩ := h5 (2, .inl (0, N)) (List.mem_of_getElem? (i := 2) rfl)
  obtain ⟨v3, e3, a15, rfl, k3⟩ := h5 (3, .inr (.inl fx)) (List.mem_of_getElem? (i := 3) rfl)
  obtain ⟨v4, e4, a16, rfl, k4⟩ := h5 (4, .inr (.inl fm)) (List.mem_of_getElem? (i := 4) rfl)
  have hb := hm.1.1
  obtain ⟨a10, r10, t10⟩ := zu_slr hb k3 tyFx f0
  obtain ⟨a11, r11, t11⟩ := zu_slr hb k3 tyFx f1
  obtain ⟨a12, r12, t12⟩ := zu_slr hb k4 tyFm g0
  obtain ⟨a13, r13, t13⟩ := zu_slr hb k4 tyFm g1
  obtain ⟨a14, r14, t14⟩ := zu_slr hb k4 tyFm g2
  have w10 := zu_slf hb t10 tyS0 fs00
  have w11 := zu_slf hb t11 tyS1 fs10
  have w15 := zu_slf hb k3 tyFx f5
  have w16 := zu_slf hb k4 tyFm g63
  have w12 := zu_sla hb t12 tyN0 (by omega) hsg0
  have w14 := zu_sla hb t14 tyN2 (by omega) hsg2
  have hm3 := z_mem_map (ph0 := 0) rfl rfl hp hm
  have lt : ∀ a t, T a = some t → t < TY.length := fun a t h => by obtain ⟨ty, y1, -⟩ := hb a t h; exact (List.getElem?_eq_some_iff.mp y1).1
  have mp : ∀ a t, T a = some t → (T a).map (z_phi PHI ph) = some (z_phi PHI ph t) := fun a t h => by rw [h]; rfl
  have back : ∀ a t, (T a).map (z_phi PHI ph) = some t → ∃ u, T a = some u ∧ t = z_phi PHI ph u := by
    intro a t h
    cases hu : T a with
    | none => rw [hu] at h; cases h
    | some u => rw [hu] at h; exact ⟨u, rfl, (Option.some.inj h).symm⟩
  obtain ⟨⟨m1, m2, m3, -⟩, ⟨m4, -, -⟩, -, m5, m6⟩ := hm3
  have hag := zu_nms_lo (OB := OB) (a10 := a10) (a11 := a11) (a12 := a12) (a13 := a13) (a14 := a14) (a15 := a15) (a16 := a16)
  have hb3 : ∀ a t, (T a).map (z_phi PHI ph) = some t → ∃ ty, TY[t]? = some ty ∧ z_cell (zu_nms OB a10 a11 a12 a13 a14 a15 a16) D DA cl (fun b => (T b).map (z_phi PHI ph)) H a ty := by
    intro a t h
    obtain ⟨ty, y1, y2⟩ := m1 a t h
    obtain ⟨u, u1, rfl⟩ := back a t h
    refine ⟨ty, y1, zu_lo_c hag ?_ y2⟩
    have := List.all_eq_true.mp hlo u (List.mem_range.mpr (lt a u u1))
    rw [y1] at this
    exact this
  have x15 : (fun b => (T b).map (z_phi PHI ph)) (zu_nms OB a10 a11 a12 a13 a14 a15 a16 15) = some tA := by
    show (T a15).map _ = _
    rw [mp _ _ k3, eX]
  have x16 : (fun b => (T b).map (z_phi PHI ph)) (zu_nms OB a10 a11 a12 a13 a14 a15 a16 16) = some uA := by
    show (T a16).map _ = _
    rw [mp _ _ k4, eM]
  have hdf : a16 ≠ a15 := fun e => by
    rw [e] at k4
    rw [k3] at k4
    cases k4
    exact hne (eX.symm.trans eM)
  have T2n : ∀ a t t', T a = some t → z_phi PHI ph t = t' → t' ≠ tA → t' ≠ uA → zu_T2 (fun b => (T b).map (z_phi PHI ph)) a15 a16 tB uB a = some t' := fun a t t' q1 q2 q3 q4 =>
    zu_T2_k (OB := zu_nms OB a10 a11 a12 a13 a14 a15 a16) (T := fun b => (T b).map (z_phi PHI ph)) x15 x16 (by show (T a).map _ = _; rw [mp _ _ q1, q2]) q3 q4
  have T2a : zu_T2 (fun b => (T b).map (z_phi PHI ph)) a15 a16 tB uB a15 = some tB := zu_T2_a
  have T2b : zu_T2 (fun b => (T b).map (z_phi PHI ph)) a15 a16 tB uB a16 = some uB := zu_T2_b hdf
  have some_ : ∀ b, ((T b).map (z_phi PHI ph)).isSome = true → (zu_T2 (fun b => (T b).map (z_phi PHI ph)) a15 a16 tB uB b).isSome = true := by
    intro b hb
    unfold zu_T2
    split
    · rfl
    · split
      · rfl
      · exact hb
  have old2 : ∀ q t, zu_T2 (fun b => (T b).map (z_phi PHI ph)) a15 a16 tB uB q = some t → ∃ t0, (T q).map (z_phi PHI ph) = some t0 ∧ ∀ ci fl, TY[t]? = some (.inl (ci, fl)) → ∃ fl0, TY[t0]? = some (.inl (ci, fl0)) := fun q t h =>
    zu_old2 (OB := zu_nms OB a10 a11 a12 a13 a14 a15 a16) (T := fun b => (T b).map (z_phi PHI ph)) x15 x16 tyA tyB tyU tyV h
  have hcl : zj_cl (zu_nms OB a10 a11 a12 a13 a14 a15 a16) D (zu_T2 (fun b => (T b).map (z_phi PHI ph)) a15 a16 tB uB) H := by
    intro q hq hT
    rcases hclq q hq with ⟨q1, q2⟩ | ⟨q1, q2⟩ | rfl | rfl | rfl | rfl | rfl | rfl
    · rw [q1] at hT
      exact absurd (Option.some.inj (T2a.symm.trans hT)).symm q2
    · rw [q1] at hT
      exact absurd (Option.some.inj (T2b.symm.trans hT)).symm q2
    · exact ⟨T2n _ _ _ t10 eS hS.1.1 hS.1.2, w10⟩
    · exact ⟨T2n _ _ _ t11 eK hS.2.1.1 hS.2.1.2, w11⟩
    · exact ⟨T2a, w15⟩
    · exact ⟨T2n _ _ _ t12 eN hS.2.2.1.1 hS.2.2.1.2, w12⟩
    · exact ⟨T2n _ _ _ t14 eA hS.2.2.2.1 hS.2.2.2.2, w14⟩
    · exact ⟨T2b, w16⟩
  have ht : z_ht (zu_nms OB a10 a11 a12 a13 a14 a15 a16) D DA cl TY (zu_T2 (fun b => (T b).map (z_phi PHI ph)) a15 a16 tB uB) H := by
    refine ⟨fun a t ha => ?_, fun a t ci fl ha hty => ?_, fun a a' t t' ci fl fl' h1 h2 h3 h4 k hk b h5 h6 => ?_, hcl⟩
    · by_cases e : a = a15
      · subst e
        rw [T2a] at ha
        cases ha
        refine ⟨_, tyB, zu_fx_ok (OB := zu_nms OB a10 a11 a12 a13 a14 a a16) (NX := [(0, 10), (1, 11)]) x15 x16 x15 tyA hfx hb3 (fun q hq => ?_)⟩
        rcases List.mem_cons.mp hq with rfl | hq
        · exact r10
        rcases List.mem_cons.mp hq with rfl | hq
        · exact r11
        cases hq
      · by_cases e' : a = a16
        · subst e'
          rw [T2b] at ha
          cases ha
          refine ⟨_, tyV, zu_fx_ok (OB := zu_nms OB a10 a11 a12 a13 a14 a15 a) (NX := [(0, 12), (1, 13), (2, 14)]) x15 x16 x16 tyU hfm hb3 (fun q hq => ?_)⟩
          rcases List.mem_cons.mp hq with rfl | hq
          · exact r12
          rcases List.mem_cons.mp hq with rfl | hq
          · exact r13
          rcases List.mem_cons.mp hq with rfl | hq
          · exact r14
          cases hq
        · rw [zu_T2_n e e'] at ha
          obtain ⟨ty, y1, y2⟩ := hb3 a t ha
          exact ⟨ty, y1, zu_cell (OB := zu_nms OB a10 a11 a12 a13 a14 a15 a16) (OB2 := zu_nms OB a10 a11 a12 a13 a14 a15 a16) (fun _ _ => rfl) x15 x16 htys y1 y2⟩
    · obtain ⟨t0, j1, j2⟩ := old2 a t ha
      obtain ⟨fl0, j3⟩ := j2 ci fl hty
      exact zj_kept (m2 a t0 ci fl0 j1 j3) some_ (fun _ _ _ h => h) (fun _ _ _ _ _ => rfl)
    · obtain ⟨t0, j1, j2⟩ := old2 a t h1
      obtain ⟨fl0, j3⟩ := j2 ci fl h2
      obtain ⟨t1, j4, j5⟩ := old2 a' t' h3
      obtain ⟨fl1, j6⟩ := j5 ci fl' h4
      exact m3 a a' t0 t1 ci fl0 fl1 j1 j3 j4 j6 k hk b h5 h6
  refine ⟨zu_nms OB a10 a11 a12 a13 a14 a15 a16, zu_T2 (fun b => (T b).map (z_phi PHI ph)) a15 a16 tB uB, hag, h1, h2, h3, h4, fun q hq => ?_, fun q hq => absurd hq List.not_mem_nil, fun q hq => absurd hq List.not_mem_nil, fun q hq => absurd hq List.not_mem_nil, trivial, ht, ⟨fun a t ha => ?_, fun h => (by cases h), fun q w c f h1 => (by cases h1)⟩, fun a t ha => (by cases ha), fun q q1 q2 q3 => ?_, m6⟩
  · have hq : q ∈ [((0 : Nat), (Sum.inr (.inr 1) : zV)), (1, .inl (0, N)), (2, .inl (0, N)), (3, z_zn 15 tB), (4, z_zn 16 uB)] := hq
    rcases List.mem_cons.mp hq with rfl | hq
    · exact ⟨v0, e0, k0.1, fun h => absurd h (by decide)⟩
    rcases List.mem_cons.mp hq with rfl | hq
    · exact ⟨v1, e1, k1⟩
    rcases List.mem_cons.mp hq with rfl | hq
    · exact ⟨v2, e2, k2⟩
    rcases List.mem_cons.mp hq with rfl | hq
    · exact ⟨_, e3, z_zn_v b1 rfl T2a⟩
    rcases List.mem_cons.mp hq with rfl | hq
    · exact ⟨_, e4, z_zn_v b2 rfl T2b⟩
    cases hq
  · obtain ⟨t0, j1, -⟩ := old2 a t ha
    exact m4 a t0 j1
  · obtain ⟨j1, j2⟩ := m5 q q1 q2 q3
    refine ⟨?_, j2⟩
    rw [zu_T2_n (fun e => by rw [e] at j1; have := j1.symm.trans x15; cases this) (fun e => by rw [e] at j1; have := j1.symm.trans x16; cases this)]
    exact j1
end ZUFIRST2
