/-! law on both sides. -/
/-- a law, as both sides hold it -/
def yl_R (L : zLW) (K V : Int → Int) (nc tS tL sP lP : Int) (kd fr hf to : Int → Int) (mc : Int) (C mk mf mh mt : Int → Int) : Prop :=
  (nc = L.1 ∧ 0 ≤ nc ∧ nc ≤ 14 ∧ mc = nc) ∧ (∀ q, 0 ≤ q → q < nc → kd q = L.2.1 q ∧ mk q = L.2.1 q ∧ mf q = fr q ∧ mh q = hf q ∧ mt q = to q) ∧
  ∃ st, st ≤ 200 ∧ yl_cl K V st L fr hf to ∧ yl_fl K V L hf to tS tL sP lP ∧ ∀ j, 0 ≤ j → j < st → C j = 1048576 * zd_op (K j) + V j
section YLO
variable {T M : Int → Int}
theorem ze_law_l1 {m : Int} {g : Int → Int} (m2 : m ≤ 220) : ∀ (d : Nat) (j : Int) (h : Int → Int) (n : Nat), m - j ≤ d → 0 ≤ j → d < n → ∃ h2, zf_M_law_l1 m g n j h = some h2 ∧ (∀ i, j ≤ i → i < m → h2 i = g i) ∧ ∀ i, i < j → h2 i = h i := by
  intro d
  induction d with
  | zero =>
    intro j h n hd j0 hn
    obtain ⟨n, rfl⟩ : ∃ q, n = q + 1 := ⟨n - 1, by omega⟩
    refine ⟨h, ?_, fun i a b => by omega, fun _ _ => rfl⟩
    show zf_M_law_l1_b m g (zf_M_law_l1 m g n) j h = _
    unfold zf_M_law_l1_b
    rw [if_neg (by omega)]
  | succ d ih =>
    intro j h n hd j0 hn
    obtain ⟨n, rfl⟩ : ∃ q, n = q + 1 := ⟨n - 1, by omega⟩
    show ∃ h2, zf_M_law_l1_b m g (zf_M_law_l1 m g n) j h = some h2 ∧ _
    unfold zf_M_law_l1_b
    by_cases hj : j < m
    · rw [if_pos hj, zl_ci j0 (by omega), zi_w_id (x := j + 1) (by omega) (by omega)]
      obtain ⟨h2, e, a, b⟩ := ih (j + 1) (zv_up h j (g j)) n (by omega) (by omega) (by omega)
      refine ⟨h2, e, fun i i1 i2 => ?_, fun i i1 => ?_⟩
      · by_cases ei : i = j
        · subst ei
          rw [b i (by omega), zv_up_s]
        · exact a i (by omega) i2
      · rw [b i (by omega), zv_up_n (by omega)]
    · rw [if_neg hj]
      exact ⟨h, rfl, fun i a b => by omega, fun _ _ => rfl⟩
theorem ze_law_l2 {m : Int} {a1 a2 a3 a4 : Int → Int} (m2 : m ≤ 14) : ∀ (d : Nat) (j : Int) (h1 h2 h3 h4 : Int → Int) (n : Nat), m - j ≤ d → 0 ≤ j → d < n → ∃ o, zf_M_law_l2 m a1 a2 a3 a4 n j h1 h2 h3 h4 = some o ∧ (∀ i, j ≤ i → i < m → o.1 i = a1 i ∧ o.2.1 i = a2 i ∧ o.2.2.1 i = a3 i ∧ o.2.2.2 i = a4 i) ∧ ∀ i, i < j → o.1 i = h1 i ∧ o.2.1 i = h2 i ∧ o.2.2.1 i = h3 i ∧ o.2.2.2 i = h4 i := by
  intro d
  induction d with
  | zero =>
    intro j h1 h2 h3 h4 n hd j0 hn
    obtain ⟨n, rfl⟩ : ∃ q, n = q + 1 := ⟨n - 1, by omega⟩
    refine ⟨(h1, h2, h3, h4), ?_, fun i a b => by omega, fun _ _ => ⟨rfl, rfl, rfl, rfl⟩⟩
    show zf_M_law_l2_b m a1 a2 a3 a4 (zf_M_law_l2 m a1 a2 a3 a4 n) j h1 h2 h3 h4 = _
    unfold zf_M_law_l2_b
    rw [if_neg (by omega)]
  | succ d ih =>
    intro j h1 h2 h3 h4 n hd j0 hn
    obtain ⟨n, rfl⟩ : ∃ q, n = q + 1 := ⟨n - 1, by omega⟩
    show ∃ o, zf_M_law_l2_b m a1 a2 a3 a4 (zf_M_law_l2 m a1 a2 a3 a4 n) j h1 h2 h3 h4 = some o ∧ _
    unfold zf_M_law_l2_b
    by_cases hj : j < m
    · rw [if_pos hj, zl_ci j0 (by omega), zi_w_id (x := j + 1) (by omega) (by omega)]
      obtain ⟨o, e, a, b⟩ := ih (j + 1) (zv_up h1 j (a1 j)) (zv_up h2 j (a2 j)) (zv_up h3 j (a3 j)) (zv_up h4 j (a4 j)) n (by omega) (by omega) (by omega)
      refine ⟨o, e, fun i i1 i2 => ?_, fun i i1 => ?_⟩
      · by_cases ei : i = j
        · subst ei
          obtain ⟨b1, b2, b3, b4⟩ := b i (by omega)
          rw [b1, b2, b3, b4, zv_up_s, zv_up_s, zv_up_s, zv_up_s]
          exact ⟨rfl, rfl, rfl, rfl⟩
        · exact a i (by omega) i2
      · obtain ⟨b1, b2, b3, b4⟩ := b i (by omega)
        rw [b1, b2, b3, b4, zv_up_n (by omega), zv_up_n (by omega), zv_up_n (by omega), zv_up_n (by omega)]
        exact ⟨rfl, rfl, rfl, rfl⟩
    · rw [if_neg hj]
      exact ⟨_, rfl, fun i a b => by omega, fun _ _ => ⟨rfl, rfl, rfl, rfl⟩⟩
abbrev zXL : Type := Int × Int × Int × Int × Int × Int × Int × Int × Int × Int × Int × (Int → Int) × (Int → Int) × (Int → Int) × (Int → Int) × (Int → Int) × (Int → Int) × Nat × Nat
abbrev zML : Type := Int × Int × Int × Int × Int × Int × Int × Int × Int × Int × Int × (Int → Int) × (Int → Int) × (Int → Int) × (Int → Int) × (Int → Int) × (Int → Int) × (Int → Int) × (Int → Int) × (Int → Int) × (Int → Int) × (Int → Int)
theorem yl_law (hT : yk_T T M) {x s f2 f3 f4 f6 f7 f8 f9 f10 f11 : Int} {g1 g2 g3 g4 g5 g6 : Int → Int} {m1 m2 m3 m4 m5 m6 m7 m8 m9 : Int} {a1 a2 a3 a4 a5 a6 a7 a8 a9 a10 a11 : Int → Int} :
    ∃ (X : zXL) (Y : zML), zf_X_law x s f2 f3 f4 f6 f7 f8 f9 f10 f11 T g1 g2 g3 g4 g5 g6 = some X ∧ zf_M_law x s m1 m2 m3 m4 m5 m6 m7 m8 m9 M a1 a2 a3 a4 a5 a6 a7 a8 a9 a10 a11 = some Y ∧ X.1 = Y.1 ∧ X.2.1 = Y.2.1 ∧ (X.2.1 = s ∨ X.2.1 = 0) ∧
      ((X.2.2.2.2.2.2.2.2.2.2.2.2.2.2.2.2.2.2 = 11 ∧ X.2.2.2.2.2.2.2.2.2.2.2.2.2.2.2.2.2.1 = 3 ∧ Y.2.2.2.2.2.2.2.2.2.2.1 = m9 ∧ Y.2.2.2.2.2.2.2.2.2.2.2.2.2.2.2.2.2 = (a7, a8, a9, a10, a11)) ∨
       (X.2.2.2.2.2.2.2.2.2.2.2.2.2.2.2.2.2.2 = 3 ∧ X.2.2.2.2.2.2.2.2.2.2.2.2.2.2.2.2.2.1 = 11 ∧ ∃ L, yl_R L X.2.2.2.2.2.2.2.2.2.2.2.1 X.2.2.2.2.2.2.2.2.2.2.2.2.1 X.2.2.2.2.2.2.1 X.2.2.2.2.2.2.2.1 X.2.2.2.2.2.2.2.2.1 X.2.2.2.2.2.2.2.2.2.1 X.2.2.2.2.2.2.2.2.2.2.1 X.2.2.2.2.2.2.2.2.2.2.2.2.2.1 X.2.2.2.2.2.2.2.2.2.2.2.2.2.2.1 X.2.2.2.2.2.2.2.2.2.2.2.2.2.2.2.1 X.2.2.2.2.2.2.2.2.2.2.2.2.2.2.2.2.1 Y.2.2.2.2.2.2.2.2.2.2.1 Y.2.2.2.2.2.2.2.2.2.2.2.2.2.2.2.2.2.1 Y.2.2.2.2.2.2.2.2.2.2.2.2.2.2.2.2.2.2.1 Y.2.2.2.2.2.2.2.2.2.2.2.2.2.2.2.2.2.2.2.1 Y.2.2.2.2.2.2.2.2.2.2.2.2.2.2.2.2.2.2.2.2.1 Y.2.2.2.2.2.2.2.2.2.2.2.2.2.2.2.2.2.2.2.2.2)) := by
  have fu : 1000000 < zi_fu := by decide
  unfold zf_X_law zf_M_law
  rw [ze_X_isWithin, ze_M_in, zl_b, zl_b]
  by_cases q1 : zs_in x 1 200 = 0
  · rw [if_pos q1, if_pos q1]
    exact ⟨_, _, rfl, rfl, rfl, rfl, Or.inl rfl, Or.inl ⟨rfl, rfl, rfl, rfl⟩⟩
  rw [if_neg q1, if_neg q1]
  obtain ⟨x1, x2⟩ := zs_in_ne q1
  unfold zf_Tape_take
  by_cases q2 : s < x
  · rw [if_pos q2, if_pos q2, zl_b, if_pos rfl]
    exact ⟨_, _, rfl, rfl, rfl, rfl, Or.inl rfl, Or.inl ⟨rfl, rfl, rfl, rfl⟩⟩
  rw [if_neg q2, if_neg q2, zl_b, if_neg (show ¬ (1 : Int) = 0 by decide)]
  unfold zf_LawReader_read zf_Law_clear
  rw [ze_Math_min, zl_b, zl_b, if_neg (show ¬ (220 : Int) < x by omega)]
  have J0 : yl_J x ((0, (fun _ => 0), (fun _ _ => none), (fun _ _ => none)) : zLW) 0 (0, g1, g2) 0 0 0 0 0 g3 g4 g5 g6 0 0 a1 a2 a3 a5 a6 := by
    have hz : ∀ (P : Prop) (q : Int), 0 ≤ q → q < 0 → P := fun P q a b => absurd a (by omega)
    refine ⟨⟨rfl, by decide, by decide⟩, ⟨by decide, by omega⟩, ⟨by show (0 : Int) ≤ 0; decide, by show (0 : Int) ≤ 0; decide⟩, fun q a b => hz _ q a b, fun q a b => hz _ q a b, ⟨⟨Or.inr ⟨rfl, fun q a b => hz _ q a b⟩, Or.inr ⟨rfl, fun q a b => hz _ q a b⟩⟩, ⟨fun _ q a b => hz _ q a b, fun _ q a b => hz _ q a b, fun _ q a b => hz _ q a b⟩, fun _ q a b => hz _ q a b, fun _ q a b => hz _ q a b⟩, ⟨⟨rfl, by show (0 : Int) ≤ 0; decide⟩, fun q a b => hz _ q a b⟩, rfl⟩
  obtain ⟨X, Y, eX, eY, hXY⟩ := yl_step (o := m5) (k := m6) (f := m7) (num := m8) (g4 := a4) hT x2 J0
  have eX : zf_LawReader_readClause 0 0 x 0 0 0 0 0 0 T g1 g2 g3 g4 g5 g6 = some X := eX
  show ∃ X Y, (((zf_LawReader_readClause 0 0 x 0 0 0 0 0 0 T g1 g2 g3 g4 g5 g6).bind _).bind _) = some X ∧ ((zf_M_readsClause 0 x 0 0 m5 m6 m7 m8 M a1 a2 a3 a4 a5 a6).bind _) = some Y ∧ _
  rw [eX, eY, zl_b, zl_b]
  rcases hXY with ⟨y1, y2, y3⟩ | ⟨y1, y2, y3, y4, y5, L2, y6⟩
  · have hne : X.1 ≠ 0 := by omega
    have e1 : zf_LawReader_read_l0 x T zi_fu 0 X.2.1 X.1 X.2.2.2.1 X.2.2.1 X.2.2.2.2.2.2.1 X.2.2.2.2.1 X.2.2.2.2.2.2.2.1 X.2.2.2.2.2.1 X.2.2.2.2.2.2.2.2.1 X.2.2.2.2.2.2.2.2.2.1 X.2.2.2.2.2.2.2.2.2.2.1 X.2.2.2.2.2.2.2.2.2.2.2.1 X.2.2.2.2.2.2.2.2.2.2.2.2.1 X.2.2.2.2.2.2.2.2.2.2.2.2.2 = _ := yx_readf (n := zi_fu - 1) hne
    rw [e1, zl_b, if_neg hne, zl_b, if_neg (show ¬ 0 < X.1 by omega), y2]
    have e2 : zf_M_law_l0 x M zi_fu 0 Y.2.1 Y.2.2.2.1 Y.2.2.1 Y.2.2.2.2.1 Y.2.2.2.2.2.1 Y.2.2.2.2.2.2.1 Y.2.2.2.2.2.2.2.1 Y.2.2.2.2.2.2.2.2.1 Y.2.2.2.2.2.2.2.2.2.1 Y.2.2.2.2.2.2.2.2.2.2.1 Y.2.2.2.2.2.2.2.2.2.2.2.1 Y.2.2.2.2.2.2.2.2.2.2.2.2.1 Y.2.2.2.2.2.2.2.2.2.2.2.2.2 = _ := ym_lawf (n := zi_fu - 1)
    rw [e2, zl_b, if_pos rfl]
    exact ⟨_, _, rfl, rfl, y3.symm, rfl, Or.inr rfl, Or.inl ⟨rfl, rfl, rfl, rfl⟩⟩
  · have hy3 : Y.2.1 = X.2.1 := y3
    obtain ⟨X2, Y2, eX2, eY2, h2⟩ := yl_loop (g4 := Y.2.2.2.2.2.2.2.2.2.2.2.1) (o := Y.2.2.2.2.1) (k := Y.2.2.2.2.2.1) (f := Y.2.2.2.2.2.2.1) (num := Y.2.2.2.2.2.2.2.1) hT x2 200 zi_fu zi_fu (by omega) (by omega) (by omega) (by omega) y6
    have y5 : X.2.2.1 = 0 + 1 := y5
    rw [show X.2.2.1 - 1 = 0 by omega] at eX2
    have eX2 : zf_LawReader_read_l0 x T zi_fu 0 X.2.1 0 X.2.2.2.1 X.2.2.1 X.2.2.2.2.2.2.1 X.2.2.2.2.1 X.2.2.2.2.2.2.2.1 X.2.2.2.2.2.1 X.2.2.2.2.2.2.2.2.1 X.2.2.2.2.2.2.2.2.2.1 X.2.2.2.2.2.2.2.2.2.2.1 X.2.2.2.2.2.2.2.2.2.2.2.1 X.2.2.2.2.2.2.2.2.2.2.2.2.1 X.2.2.2.2.2.2.2.2.2.2.2.2.2 = some X2 := eX2
    rw [y1, eX2, zl_b, y2, hy3, eY2, zl_b]
    rcases h2 with ⟨u1, u2, u3⟩ | ⟨u1, u2, L3, u3, u4⟩
    · rw [if_neg (show ¬ X2.2.1 = 0 by omega), zl_b, if_neg (show ¬ 0 < X2.2.1 by omega), if_pos u2]
      exact ⟨_, _, rfl, rfl, u3.symm, rfl, Or.inr rfl, Or.inl ⟨rfl, rfl, rfl, rfl⟩⟩
    · obtain ⟨⟨j1, j2, j3⟩, ⟨j4, j5⟩, ⟨j6, j7⟩, j8, j9, j10, j11, j12⟩ := u3
      have j6 : 0 ≤ X2.2.2.1 := j6
      have j7 : X2.2.2.1 ≤ X2.1 := j7
      obtain ⟨⟨k1, k2⟩, k3⟩ := j11
      have k1 : Y2.2.2.1 = X2.2.2.1 := k1
      rw [if_pos u1, zl_b, if_pos (show 0 < X2.2.2.2.1 by omega), if_neg (show ¬ Y2.1 = 0 by omega)]
      obtain ⟨h7, e7, b7, -⟩ := ze_law_l1 (m := Y2.2.2.1) (g := Y2.2.2.2.2.2.2.2.2.2.2.2.2.1) (by omega) 220 0 a7 zi_fu (by omega) (by decide) (by omega)
      obtain ⟨h8, e8, b8, -⟩ := ze_law_l2 (m := Y2.2.2.2.1) (a1 := Y2.2.2.2.2.2.2.2.2.1) (a2 := Y2.2.2.2.2.2.2.2.2.2.1) (a3 := Y2.2.2.2.2.2.2.2.2.2.2.1) (a4 := Y2.2.2.2.2.2.2.2.2.2.2.2.2.2) (by omega) 220 0 a8 a9 a10 a11 zi_fu (by omega) (by decide) (by omega)
      rw [e7, zl_b, e8, zl_b]
      refine ⟨_, _, rfl, rfl, j12.symm, rfl, Or.inr rfl, Or.inr ⟨rfl, rfl, L3, ⟨j1, j2, j3, j12⟩, fun q q1 q2 => ?_, X2.2.2.1, by omega, j9, j10, fun j i1 i2 => ?_⟩⟩
      · obtain ⟨c1, c2, c3, c4, c5⟩ := j8 q q1 q2
        have q2 : q < X2.2.2.2.1 := q2
        obtain ⟨d1, d2, d3, d4⟩ := b8 q q1 (by omega)
        exact ⟨c1, d1.trans c2, d2.trans c3, d3.trans c4, d4.trans c5⟩
      · exact (b7 j i1 (by omega)).trans (k3 j i1 i2).1
end YLO
