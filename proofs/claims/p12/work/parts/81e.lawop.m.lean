/-! 81e.lawop, 82a.anyof, 82b.bits, 83a.sight, 83b.sees, 83c.look, 83d.lines, 83e.draw, 84a.time, 84b.cloudy -/
section
/-! law on both sides. -/
/-- a law, as both sides hold it -/
def yl_R (L : zLW) (K V : Int → Int) (nc tS tL sP lP : Int) (kd fr hf to : Int → Int) (mc : Int) (C mk mf mh mt : Int → Int) : Prop :=
  (nc = L.1 ∧ 0 ≤ nc ∧ nc ≤ 14 ∧ mc = nc) ∧ (∀ q, 0 ≤ q → q < nc → kd q = L.2.1 q ∧ mk q = L.2.1 q ∧ mf q = fr q ∧ mh q = hf q ∧ mt q = to q) ∧
  ∃ st, st ≤ 200 ∧ yl_cl K V st L fr hf to ∧ yl_fl K V L hf to tS tL sP lP ∧ ∀ j, 0 ≤ j → j < st → C j = 1048576 * zd_op (K j) + V j
section YLO
variable {T M : Int → Int}
theorem ze_law_l1 {m : Int} {g : Int → Int} (m2 : m ≤ 220) : ∀ (d : Nat) (j : Int) (h : Int → Int) (n : Nat), m - j ≤ d → 0 ≤ j → d < n → ∃ h2, zf_M_law_l1 m g n j h = some h2 ∧ (∀ i, j ≤ i → i < m → h2 i = g i) ∧ ∀ i, i < j → h2 i = h i := by
  intro d
  induction d with
  | zero =>
    intro j h n hd j0 hn
    obtain ⟨n, rfl⟩ : ∃ q, n = q + 1 := ⟨n - 1, by omega⟩
    refine ⟨h, ?_, fun i a b => by omega, fun _ _ => rfl⟩
    show zf_M_law_l1_b m g (zf_M_law_l1 m g n) j h = _
    unfold zf_M_law_l1_b
    rw [if_neg (by omega)]
  | succ d ih =>
    intro j h n hd j0 hn
    obtain ⟨n, rfl⟩ : ∃ q, n = q + 1 := ⟨n - 1, by omega⟩
    show ∃ h2, zf_M_law_l1_b m g (zf_M_law_l1 m g n) j h = some h2 ∧ _
    unfold zf_M_law_l1_b
    by_cases hj : j < m
    · rw [if_pos hj, zl_ci j0 (by omega), zi_w_id (x := j + 1) (by omega) (by omega)]
      obtain ⟨h2, e, a, b⟩ := ih (j + 1) (zv_up h j (g j)) n (by omega) (by omega) (by omega)
      refine ⟨h2, e, fun i i1 i2 => ?_, fun i i1 => ?_⟩
      · by_cases ei : i = j
        · subst ei
          rw [b i (by omega), zv_up_s]
        · exact a i (by omega) i2
      · rw [b i (by omega), zv_up_n (by omega)]
    · rw [if_neg hj]
      exact ⟨h, rfl, fun i a b => by omega, fun _ _ => rfl⟩
theorem ze_law_l2 {m : Int} {a1 a2 a3 a4 : Int → Int} (m2 : m ≤ 14) : ∀ (d : Nat) (j : Int) (h1 h2 h3 h4 : Int → Int) (n : Nat), m - j ≤ d → 0 ≤ j → d < n → ∃ o, zf_M_law_l2 m a1 a2 a3 a4 n j h1 h2 h3 h4 = some o ∧ (∀ i, j ≤ i → i < m → o.1 i = a1 i ∧ o.2.1 i = a2 i ∧ o.2.2.1 i = a3 i ∧ o.2.2.2 i = a4 i) ∧ ∀ i, i < j → o.1 i = h1 i ∧ o.2.1 i = h2 i ∧ o.2.2.1 i = h3 i ∧ o.2.2.2 i = h4 i := by
  intro d
  induction d with
  | zero =>
    intro j h1 h2 h3 h4 n hd j0 hn
    obtain ⟨n, rfl⟩ : ∃ q, n = q + 1 := ⟨n - 1, by omega⟩
    refine ⟨(h1, h2, h3, h4), ?_, fun i a b => by omega, fun _ _ => ⟨rfl, rfl, rfl, rfl⟩⟩
    show zf_M_law_l2_b m a1 a2 a3 a4 (zf_M_law_l2 m a1 a2 a3 a4 n) j h1 h2 h3 h4 = _
    unfold zf_M_law_l2_b
    rw [if_neg (by omega)]
  | succ d ih =>
    intro j h1 h2 h3 h4 n hd j0 hn
    obtain ⟨n, rfl⟩ : ∃ q, n = q + 1 := ⟨n - 1, by omega⟩
    show ∃ o, zf_M_law_l2_b m a1 a2 a3 a4 (zf_M_law_l2 m a1 a2 a3 a4 n) j h1 h2 h3 h4 = some o ∧ _
    unfold zf_M_law_l2_b
    by_cases hj : j < m
    · rw [if_pos hj, zl_ci j0 (by omega), zi_w_id (x := j + 1) (by omega) (by omega)]
      obtain ⟨o, e, a, b⟩ := ih (j + 1) (zv_up h1 j (a1 j)) (zv_up h2 j (a2 j)) (zv_up h3 j (a3 j)) (zv_up h4 j (a4 j)) n (by omega) (by omega) (by omega)
      refine ⟨o, e, fun i i1 i2 => ?_, fun i i1 => ?_⟩
      · by_cases ei : i = j
        · subst ei
          obtain ⟨b1, b2, b3, b4⟩ := b i (by omega)
          rw [b1, b2, b3, b4, zv_up_s, zv_up_s, zv_up_s, zv_up_s]
          exact ⟨rfl, rfl, rfl, rfl⟩
        · exact a i (by omega) i2
      · obtain ⟨b1, b2, b3, b4⟩ := b i (by omega)
        rw [b1, b2, b3, b4, zv_up_n (by omega), zv_up_n (by omega), zv_up_n (by omega), zv_up_n (by omega)]
        exact ⟨rfl, rfl, rfl, rfl⟩
    · rw [if_neg hj]
      exact ⟨_, rfl, fun i a b => by omega, fun _ _ => ⟨rfl, rfl, rfl, rfl⟩⟩
abbrev zXL : Type := Int × Int × Int × Int × Int × Int × Int × Int × Int × Int × Int × (Int → Int) × (Int → Int) × (Int → Int) × (Int → Int) × (Int → Int) × (Int → Int) × Nat × Nat
abbrev zML : Type := Int × Int × Int × Int × Int × Int × Int × Int × Int × Int × Int × (Int → Int) × (Int → Int) × (Int → Int) × (Int → Int) × (Int → Int) × (Int → Int) × (Int → Int) × (Int → Int) × (Int → Int) × (Int → Int) × (Int → Int)
theorem yl_law (hT : yk_T T M) {x s f2 f3 f4 f6 f7 f8 f9 f10 f11 : Int} {g1 g2 g3 g4 g5 g6 : Int → Int} {m1 m2 m3 m4 m5 m6 m7 m8 m9 : Int} {a1 a2 a3 a4 a5 a6 a7 a8 a9 a10 a11 : Int → Int} :
    ∃ (X : zXL) (Y : zML), zf_X_law x s f2 f3 f4 f6 f7 f8 f9 f10 f11 T g1 g2 g3 g4 g5 g6 = some X ∧ zf_M_law x s m1 m2 m3 m4 m5 m6 m7 m8 m9 M a1 a2 a3 a4 a5 a6 a7 a8 a9 a10 a11 = some Y ∧ X.1 = Y.1 ∧ X.2.1 = Y.2.1 ∧ (X.2.1 = s ∨ X.2.1 = 0) ∧
      ((X.2.2.2.2.2.2.2.2.2.2.2.2.2.2.2.2.2.2 = 11 ∧ X.2.2.2.2.2.2.2.2.2.2.2.2.2.2.2.2.2.1 = 3 ∧ Y.2.2.2.2.2.2.2.2.2.2.1 = m9 ∧ Y.2.2.2.2.2.2.2.2.2.2.2.2.2.2.2.2.2 = (a7, a8, a9, a10, a11)) ∨
       (X.2.2.2.2.2.2.2.2.2.2.2.2.2.2.2.2.2.2 = 3 ∧ X.2.2.2.2.2.2.2.2.2.2.2.2.2.2.2.2.2.1 = 11 ∧ ∃ L, yl_R L X.2.2.2.2.2.2.2.2.2.2.2.1 X.2.2.2.2.2.2.2.2.2.2.2.2.1 X.2.2.2.2.2.2.1 X.2.2.2.2.2.2.2.1 X.2.2.2.2.2.2.2.2.1 X.2.2.2.2.2.2.2.2.2.1 X.2.2.2.2.2.2.2.2.2.2.1 X.2.2.2.2.2.2.2.2.2.2.2.2.2.1 X.2.2.2.2.2.2.2.2.2.2.2.2.2.2.1 X.2.2.2.2.2.2.2.2.2.2.2.2.2.2.2.1 X.2.2.2.2.2.2.2.2.2.2.2.2.2.2.2.2.1 Y.2.2.2.2.2.2.2.2.2.2.1 Y.2.2.2.2.2.2.2.2.2.2.2.2.2.2.2.2.2.1 Y.2.2.2.2.2.2.2.2.2.2.2.2.2.2.2.2.2.2.1 Y.2.2.2.2.2.2.2.2.2.2.2.2.2.2.2.2.2.2.2.1 Y.2.2.2.2.2.2.2.2.2.2.2.2.2.2.2.2.2.2.2.2.1 Y.2.2.2.2.2.2.2.2.2.2.2.2.2.2.2.2.2.2.2.2.2)) := by
  have fu : 1000000 < zi_fu := by decide
  unfold zf_X_law zf_M_law
  rw [ze_X_isWithin, ze_M_in, zl_b, zl_b]
  by_cases q1 : zs_in x 1 200 = 0
  · rw [if_pos q1, if_pos q1]
    exact ⟨_, _, rfl, rfl, rfl, rfl, Or.inl rfl, Or.inl ⟨rfl, rfl, rfl, rfl⟩⟩
  rw [if_neg q1, if_neg q1]
  obtain ⟨x1, x2⟩ := zs_in_ne q1
  unfold zf_Tape_take
  by_cases q2 : s < x
  · rw [if_pos q2, if_pos q2, zl_b, if_pos rfl]
    exact ⟨_, _, rfl, rfl, rfl, rfl, Or.inl rfl, Or.inl ⟨rfl, rfl, rfl, rfl⟩⟩
  rw [if_neg q2, if_neg q2, zl_b, if_neg (show ¬ (1 : Int) = 0 by decide)]
  unfold zf_LawReader_read zf_Law_clear
  rw [ze_Math_min, zl_b, zl_b, if_neg (show ¬ (220 : Int) < x by omega)]
  have J0 : yl_J x ((0, (fun _ => 0), (fun _ _ => none), (fun _ _ => none)) : zLW) 0 (0, g1, g2) 0 0 0 0 0 g3 g4 g5 g6 0 0 a1 a2 a3 a5 a6 := by
    have hz : ∀ (P : Prop) (q : Int), 0 ≤ q → q < 0 → P := fun P q a b => absurd a (by omega)
    refine ⟨⟨rfl, by decide, by decide⟩, ⟨by decide, by omega⟩, ⟨by show (0 : Int) ≤ 0; decide, by show (0 : Int) ≤ 0; decide⟩, fun q a b => hz _ q a b, fun q a b => hz _ q a b, ⟨⟨Or.inr ⟨rfl, fun q a b => hz _ q a b⟩, Or.inr ⟨rfl, fun q a b => hz _ q a b⟩⟩, ⟨fun _ q a b => hz _ q a b, fun _ q a b => hz _ q a b, fun _ q a b => hz _ q a b⟩, fun _ q a b => hz _ q a b, fun _ q a b => hz _ q a b⟩, ⟨⟨rfl, by show (0 : Int) ≤ 0; decide⟩, fun q a b => hz _ q a b⟩, rfl⟩
  obtain ⟨X, Y, eX, eY, hXY⟩ := yl_step (o := m5) (k := m6) (f := m7) (num := m8) (g4 := a4) hT x2 J0
  have eX : zf_LawReader_readClause 0 0 x 0 0 0 0 0 0 T g1 g2 g3 g4 g5 g6 = some X := eX
  show ∃ X Y, (((zf_LawReader_readClause 0 0 x 0 0 0 0 0 0 T g1 g2 g3 g4 g5 g6).bind _).bind _) = some X ∧ ((zf_M_readsClause 0 x 0 0 m5 m6 m7 m8 M a1 a2 a3 a4 a5 a6).bind _) = some Y ∧ _
  rw [eX, eY, zl_b, zl_b]
  rcases hXY with ⟨y1, y2, y3⟩ | ⟨y1, y2, y3, y4, y5, L2, y6⟩
  · have hne : X.1 ≠ 0 := by omega
    have e1 : zf_LawReader_read_l0 x T zi_fu 0 X.2.1 X.1 X.2.2.2.1 X.2.2.1 X.2.2.2.2.2.2.1 X.2.2.2.2.1 X.2.2.2.2.2.2.2.1 X.2.2.2.2.2.1 X.2.2.2.2.2.2.2.2.1 X.2.2.2.2.2.2.2.2.2.1 X.2.2.2.2.2.2.2.2.2.2.1 X.2.2.2.2.2.2.2.2.2.2.2.1 X.2.2.2.2.2.2.2.2.2.2.2.2.1 X.2.2.2.2.2.2.2.2.2.2.2.2.2 = _ := yx_readf (n := zi_fu - 1) hne
    rw [e1, zl_b, if_neg hne, zl_b, if_neg (show ¬ 0 < X.1 by omega), y2]
    have e2 : zf_M_law_l0 x M zi_fu 0 Y.2.1 Y.2.2.2.1 Y.2.2.1 Y.2.2.2.2.1 Y.2.2.2.2.2.1 Y.2.2.2.2.2.2.1 Y.2.2.2.2.2.2.2.1 Y.2.2.2.2.2.2.2.2.1 Y.2.2.2.2.2.2.2.2.2.1 Y.2.2.2.2.2.2.2.2.2.2.1 Y.2.2.2.2.2.2.2.2.2.2.2.1 Y.2.2.2.2.2.2.2.2.2.2.2.2.1 Y.2.2.2.2.2.2.2.2.2.2.2.2.2 = _ := ym_lawf (n := zi_fu - 1)
    rw [e2, zl_b, if_pos rfl]
    exact ⟨_, _, rfl, rfl, y3.symm, rfl, Or.inr rfl, Or.inl ⟨rfl, rfl, rfl, rfl⟩⟩
  · have hy3 : Y.2.1 = X.2.1 := y3
    obtain ⟨X2, Y2, eX2, eY2, h2⟩ := yl_loop (g4 := Y.2.2.2.2.2.2.2.2.2.2.2.1) (o := Y.2.2.2.2.1) (k := Y.2.2.2.2.2.1) (f := Y.2.2.2.2.2.2.1) (num := Y.2.2.2.2.2.2.2.1) hT x2 200 zi_fu zi_fu (by omega) (by omega) (by omega) (by omega) y6
    have y5 : X.2.2.1 = 0 + 1 := y5
    rw [show X.2.2.1 - 1 = 0 by omega] at eX2
    have eX2 : zf_LawReader_read_l0 x T zi_fu 0 X.2.1 0 X.2.2.2.1 X.2.2.1 X.2.2.2.2.2.2.1 X.2.2.2.2.1 X.2.2.2.2.2.2.2.1 X.2.2.2.2.2.1 X.2.2.2.2.2.2.2.2.1 X.2.2.2.2.2.2.2.2.2.1 X.2.2.2.2.2.2.2.2.2.2.1 X.2.2.2.2.2.2.2.2.2.2.2.1 X.2.2.2.2.2.2.2.2.2.2.2.2.1 X.2.2.2.2.2.2.2.2.2.2.2.2.2 = some X2 := eX2
    rw [y1, eX2, zl_b, y2, hy3, eY2, zl_b]
    rcases h2 with ⟨u1, u2, u3⟩ | ⟨u1, u2, L3, u3, u4⟩
    · rw [if_neg (show ¬ X2.2.1 = 0 by omega), zl_b, if_neg (show ¬ 0 < X2.2.1 by omega), if_pos u2]
      exact ⟨_, _, rfl, rfl, u3.symm, rfl, Or.inr rfl, Or.inl ⟨rfl, rfl, rfl, rfl⟩⟩
    · obtain ⟨⟨j1, j2, j3⟩, ⟨j4, j5⟩, ⟨j6, j7⟩, j8, j9, j10, j11, j12⟩ := u3
      have j6 : 0 ≤ X2.2.2.1 := j6
      have j7 : X2.2.2.1 ≤ X2.1 := j7
      obtain ⟨⟨k1, k2⟩, k3⟩ := j11
      have k1 : Y2.2.2.1 = X2.2.2.1 := k1
      rw [if_pos u1, zl_b, if_pos (show 0 < X2.2.2.2.1 by omega), if_neg (show ¬ Y2.1 = 0 by omega)]
      obtain ⟨h7, e7, b7, -⟩ := ze_law_l1 (m := Y2.2.2.1) (g := Y2.2.2.2.2.2.2.2.2.2.2.2.2.1) (by omega) 220 0 a7 zi_fu (by omega) (by decide) (by omega)
      obtain ⟨h8, e8, b8, -⟩ := ze_law_l2 (m := Y2.2.2.2.1) (a1 := Y2.2.2.2.2.2.2.2.2.1) (a2 := Y2.2.2.2.2.2.2.2.2.2.1) (a3 := Y2.2.2.2.2.2.2.2.2.2.2.1) (a4 := Y2.2.2.2.2.2.2.2.2.2.2.2.2.2) (by omega) 220 0 a8 a9 a10 a11 zi_fu (by omega) (by decide) (by omega)
      rw [e7, zl_b, e8, zl_b]
      refine ⟨_, _, rfl, rfl, j12.symm, rfl, Or.inr rfl, Or.inr ⟨rfl, rfl, L3, ⟨j1, j2, j3, j12⟩, fun q q1 q2 => ?_, X2.2.2.1, by omega, j9, j10, fun j i1 i2 => ?_⟩⟩
      · obtain ⟨c1, c2, c3, c4, c5⟩ := j8 q q1 q2
        have q2 : q < X2.2.2.2.1 := q2
        obtain ⟨d1, d2, d3, d4⟩ := b8 q q1 (by omega)
        exact ⟨c1, d1.trans c2, d2.trans c3, d3.trans c4, d4.trans c5⟩
      · exact (b7 j i1 (by omega)).trans (k3 j i1 i2).1
end YLO
end
section
/-! What a law comes to: on both sides the same. -/
def yl_anyF (L : zLW) (k : Int) (lt : Int → Int) : Nat → Int → Bool
  | 0, _ => false
  | m + 1, q => if L.2.1 q = k ∧ L.2.2.1 q lt = some 1 then true else yl_anyF L k lt m (q + 1)
def yl_any (L : zLW) (k : Int) (lt : Int → Int) : Bool := yl_anyF L k lt L.1.toNat 0
def yl_clm (high : Int) (r : Option Int) : Int := match r with
  | none => 0
  | some v => if v < 0 then 0 else if high < v then high else v
def yl_amtF (L : zLW) (k high : Int) (lt : Int → Int) : Nat → Int → Int
  | 0, _ => 0
  | m + 1, q => if L.2.1 q = k ∧ L.2.2.1 q lt = some 1 then yl_clm high (L.2.2.2 q lt) else yl_amtF L k high lt m (q + 1)
def yl_amt (L : zLW) (k high : Int) (lt : Int → Int) : Int := yl_amtF L k high lt L.1.toNat 0
section YLA
variable {L : zLW} {K V kd fr hf to C mk mf mh mt : Int → Int} {nc tS tL sP lP mc : Int} {lt : Int → Int}
theorem yl_run (R : yl_R L K V nc tS tL sP lP kd fr hf to mc C mk mf mh mt) {q : Int} (q1 : 0 ≤ q) (q2 : q < nc) :
    (∀ lt v, L.2.2.1 q lt = some v → v = 0 ∨ v = 1) ∧ (∀ f0 S lt, ∃ S', zf_Law_run (hf q) (to q) f0 K S V lt = some ((match L.2.2.1 q lt with | none => ((0 : Int), f0) | some v => ((1 : Int), v)).1, (match L.2.2.1 q lt with | none => ((0 : Int), f0) | some v => ((1 : Int), v)).2, S')) ∧ (∀ S lt, ∃ S', zf_M_comesTo (hf q) (to q) C S lt = some ((match L.2.2.1 q lt with | none => (0 : Int) | some v => v), S')) ∧
    (yl_am (L.2.1 q) → (∀ f0 S lt, ∃ S', zf_Law_run (fr q) (hf q) f0 K S V lt = some ((match L.2.2.2 q lt with | none => ((0 : Int), f0) | some v => ((1 : Int), v)).1, (match L.2.2.2 q lt with | none => ((0 : Int), f0) | some v => ((1 : Int), v)).2, S')) ∧ ∀ S lt, ∃ S', zf_M_comesTo (fr q) (hf q) C S lt = some ((match L.2.2.2 q lt with | none => (0 : Int) | some v => v), S')) := by
  obtain ⟨⟨r1, r2, r3, r4⟩, r5, st, r6, r7, r8, r9⟩ := R
  obtain ⟨a1, ⟨a2, a3, a4, a5⟩, a6, a7⟩ := r7 q q1 (by omega)
  have ag : ∀ a b, 0 ≤ a → b ≤ st → zd_ag K V a b K V C := fun a b a0 b0 j j1 j2 => ⟨rfl, rfl, r9 j (by omega) (by omega)⟩
  have z1 := fun lt => zd_run a6 (by decide) (by omega) (ag _ _ (by omega) a5) lt
  refine ⟨a6.2.1 rfl, fun f0 S lt => (z1 lt).1 f0 S, fun S lt => (z1 lt).2 S, fun ha => ?_⟩
  have z2 := fun lt => zd_run (a7 ha) (by decide) (by omega) (ag _ _ a2 (by omega)) lt
  exact ⟨fun f0 S lt => (z2 lt).1 f0 S, fun S lt => (z2 lt).2 S⟩
theorem yl_anyX_l (R : yl_R L K V nc tS tL sP lP kd fr hf to mc C mk mf mh mt) {k : Int} : ∀ (d : Nat) (q f1 : Int) (S : Int → Int) (n : Nat), q + d = nc → 0 ≤ q → d < n →
    ∃ a S', zf_Law_anyHolds_l0 k nc kd hf to K V lt n q f1 S = some (if yl_anyF L k lt d q = true then .inr (1, a, S') else .inl (a, S')) := by
  intro d
  induction d with
  | zero =>
    intro q f1 S n e q0 hn
    obtain ⟨n, rfl⟩ : ∃ z, n = z + 1 := ⟨n - 1, by omega⟩
    refine ⟨f1, S, ?_⟩
    show zf_Law_anyHolds_l0_b k nc kd hf to K V lt (zf_Law_anyHolds_l0 k nc kd hf to K V lt n) q f1 S = _
    unfold zf_Law_anyHolds_l0_b
    rw [if_neg (by omega), if_neg (show ¬ yl_anyF L k lt 0 q = true by simp [yl_anyF])]
  | succ d ih =>
    intro q f1 S n e q0 hn
    obtain ⟨n, rfl⟩ : ∃ z, n = z + 1 := ⟨n - 1, by omega⟩
    have hnc := R.1
    obtain ⟨k1, -⟩ := R.2.1 q q0 (by omega)
    obtain ⟨c1, c2, -, -⟩ := yl_run R q0 (show q < nc by omega)
    show ∃ a S', zf_Law_anyHolds_l0_b k nc kd hf to K V lt (zf_Law_anyHolds_l0 k nc kd hf to K V lt n) q f1 S = _
    unfold zf_Law_anyHolds_l0_b
    rw [if_pos (by omega), zl_ci q0 (by omega), k1, zi_w_id (x := q + 1) (by omega) (by omega)]
    have next : ¬ (L.2.1 q = k ∧ L.2.2.1 q lt = some 1) → ∀ f S, ∃ a S', zf_Law_anyHolds_l0 k nc kd hf to K V lt n (q + 1) f S = some (if yl_anyF L k lt (d + 1) q = true then .inr (1, a, S') else .inl (a, S')) := by
      intro hno f S
      rw [show yl_anyF L k lt (d + 1) q = yl_anyF L k lt d (q + 1) from if_neg hno]
      exact ih (q + 1) f S n (by omega) (by omega) (by omega)
    by_cases hk : L.2.1 q = k
    · rw [if_pos hk]
      obtain ⟨S', e1⟩ := c2 f1 S lt
      rw [e1, zl_b]
      cases hr : L.2.2.1 q lt with
      | none =>
        dsimp only
        rw [if_pos rfl]
        exact next (fun h => by rw [hr] at h; cases h.2) _ _
      | some v =>
        dsimp only
        rw [if_neg (show ¬ (1 : Int) = 0 by decide)]
        rcases c1 lt v hr with h | h
        · subst h
          rw [if_pos rfl]
          exact next (fun h => by rw [hr] at h; cases h.2) _ _
        · subst h
          rw [if_neg (show ¬ (1 : Int) = 0 by decide), show yl_anyF L k lt (d + 1) q = true from if_pos ⟨hk, hr⟩]
          exact ⟨_, _, rfl⟩
    · rw [if_neg hk]
      exact next (fun h => hk h.1) _ _
theorem yl_anyX (R : yl_R L K V nc tS tL sP lP kd fr hf to mc C mk mf mh mt) {k f1 : Int} {S : Int → Int} : ∃ a S', zf_Law_anyHolds k nc f1 kd hf to K S V lt = some ((if yl_any L k lt = true then 1 else 0), a, S') := by
  have hnc := R.1
  obtain ⟨a, S', e⟩ := yl_anyX_l (lt := lt) (k := k) R L.1.toNat 0 f1 S zi_fu (by omega) (by decide) (by have : 1000 < zi_fu := (by decide); omega)
  refine ⟨a, S', ?_⟩
  unfold zf_Law_anyHolds
  rw [e, zl_b]
  unfold yl_any
  by_cases h : yl_anyF L k lt L.1.toNat 0 = true
  · rw [if_pos h, if_pos h]; rfl
  · rw [if_neg h, if_neg h]; rfl
theorem yl_anyM_l (R : yl_R L K V nc tS tL sP lP kd fr hf to mc C mk mf mh mt) {k : Int} : ∀ (d : Nat) (q : Int) (S : Int → Int) (n : Nat), q + d = nc → 0 ≤ q → d < n →
    ∃ S', zf_M_anyOf_l0 k mc mk mh mt C lt n q S = some (if yl_anyF L k lt d q = true then .inr (1, S') else .inl S') := by
  intro d
  induction d with
  | zero =>
    intro q S n e q0 hn
    obtain ⟨n, rfl⟩ : ∃ z, n = z + 1 := ⟨n - 1, by omega⟩
    have hnc := R.1
    refine ⟨S, ?_⟩
    show zf_M_anyOf_l0_b k mc mk mh mt C lt (zf_M_anyOf_l0 k mc mk mh mt C lt n) q S = _
    unfold zf_M_anyOf_l0_b
    rw [if_neg (by omega), if_neg (show ¬ yl_anyF L k lt 0 q = true by simp [yl_anyF])]
  | succ d ih =>
    intro q S n e q0 hn
    obtain ⟨n, rfl⟩ : ∃ z, n = z + 1 := ⟨n - 1, by omega⟩
    have hnc := R.1
    obtain ⟨-, k1, -, k3, k4⟩ := R.2.1 q q0 (by omega)
    obtain ⟨c1, -, c2, -⟩ := yl_run R q0 (show q < nc by omega)
    show ∃ S', zf_M_anyOf_l0_b k mc mk mh mt C lt (zf_M_anyOf_l0 k mc mk mh mt C lt n) q S = _
    unfold zf_M_anyOf_l0_b
    rw [if_pos (by omega), zl_ci q0 (by omega), k1, k3, k4, zi_w_id (x := q + 1) (by omega) (by omega)]
    have next : ¬ (L.2.1 q = k ∧ L.2.2.1 q lt = some 1) → ∀ S, ∃ S', zf_M_anyOf_l0 k mc mk mh mt C lt n (q + 1) S = some (if yl_anyF L k lt (d + 1) q = true then .inr (1, S') else .inl S') := by
      intro hno S
      rw [show yl_anyF L k lt (d + 1) q = yl_anyF L k lt d (q + 1) from if_neg hno]
      exact ih (q + 1) S n (by omega) (by omega) (by omega)
    by_cases hk : L.2.1 q = k
    · rw [if_pos hk]
      obtain ⟨S', e1⟩ := c2 S lt
      rw [e1, zl_b]
      cases hr : L.2.2.1 q lt with
      | none =>
        dsimp only
        rw [if_neg (show ¬ (0 : Int) = 1 by decide)]
        exact next (fun h => by rw [hr] at h; cases h.2) _
      | some v =>
        dsimp only
        rcases c1 lt v hr with h | h
        · subst h
          rw [if_neg (show ¬ (0 : Int) = 1 by decide)]
          exact next (fun h => by rw [hr] at h; cases h.2) _
        · subst h
          rw [if_pos rfl, show yl_anyF L k lt (d + 1) q = true from if_pos ⟨hk, hr⟩]
          exact ⟨_, rfl⟩
    · rw [if_neg hk]
      exact next (fun h => hk h.1) _
theorem yl_anyM (R : yl_R L K V nc tS tL sP lP kd fr hf to mc C mk mf mh mt) {k : Int} {S : Int → Int} : ∃ S', zf_M_anyOf k mc mk mh mt C S lt = some ((if yl_any L k lt = true then 1 else 0), S') := by
  have hnc := R.1
  obtain ⟨S', e⟩ := yl_anyM_l (lt := lt) (k := k) R L.1.toNat 0 S zi_fu (by omega) (by decide) (by have : 1000 < zi_fu := (by decide); omega)
  refine ⟨S', ?_⟩
  unfold zf_M_anyOf
  rw [e, zl_b]
  unfold yl_any
  by_cases h : yl_anyF L k lt L.1.toNat 0 = true
  · rw [if_pos h, if_pos h]; rfl
  · rw [if_neg h, if_neg h]; rfl
theorem yl_amtX_l (R : yl_R L K V nc tS tL sP lP kd fr hf to mc C mk mf mh mt) {k high : Int} (hk0 : yl_am k) (hh : 0 ≤ high) : ∀ (d : Nat) (q f1 : Int) (S : Int → Int) (n : Nat), q + d = nc → 0 ≤ q → d < n →
    ∃ a S', (zf_Law_amount_l0 k high nc kd hf to K V lt fr n q f1 S = some (.inr (yl_amtF L k high lt d q, a, S'))) ∨ (zf_Law_amount_l0 k high nc kd hf to K V lt fr n q f1 S = some (.inl (a, S')) ∧ yl_amtF L k high lt d q = 0) := by
  intro d
  induction d with
  | zero =>
    intro q f1 S n e q0 hn
    obtain ⟨n, rfl⟩ : ∃ z, n = z + 1 := ⟨n - 1, by omega⟩
    refine ⟨f1, S, Or.inr ⟨?_, rfl⟩⟩
    show zf_Law_amount_l0_b k high nc kd hf to K V lt fr (zf_Law_amount_l0 k high nc kd hf to K V lt fr n) q f1 S = _
    unfold zf_Law_amount_l0_b
    rw [if_neg (by omega)]
  | succ d ih =>
    intro q f1 S n e q0 hn
    obtain ⟨n, rfl⟩ : ∃ z, n = z + 1 := ⟨n - 1, by omega⟩
    have hnc := R.1
    obtain ⟨k1, -⟩ := R.2.1 q q0 (by omega)
    obtain ⟨c1, c2, -, c4⟩ := yl_run R q0 (show q < nc by omega)
    show ∃ a S', (zf_Law_amount_l0_b k high nc kd hf to K V lt fr (zf_Law_amount_l0 k high nc kd hf to K V lt fr n) q f1 S = _) ∨ (zf_Law_amount_l0_b k high nc kd hf to K V lt fr (zf_Law_amount_l0 k high nc kd hf to K V lt fr n) q f1 S = _ ∧ _)
    unfold zf_Law_amount_l0_b
    rw [if_pos (by omega), zl_ci q0 (by omega), k1, zi_w_id (x := q + 1) (by omega) (by omega)]
    have next : ¬ (L.2.1 q = k ∧ L.2.2.1 q lt = some 1) → ∀ f S, ∃ a S', (zf_Law_amount_l0 k high nc kd hf to K V lt fr n (q + 1) f S = some (.inr (yl_amtF L k high lt (d + 1) q, a, S'))) ∨ (zf_Law_amount_l0 k high nc kd hf to K V lt fr n (q + 1) f S = some (.inl (a, S')) ∧ yl_amtF L k high lt (d + 1) q = 0) := by
      intro hno f S
      rw [show yl_amtF L k high lt (d + 1) q = yl_amtF L k high lt d (q + 1) from if_neg hno]
      exact ih (q + 1) f S n (by omega) (by omega) (by omega)
    by_cases hk : L.2.1 q = k
    · rw [if_pos hk]
      obtain ⟨S', e1⟩ := c2 f1 S lt
      rw [e1, zl_b]
      cases hr : L.2.2.1 q lt with
      | none =>
        dsimp only
        rw [if_pos rfl]
        exact next (fun h => by rw [hr] at h; cases h.2) _ _
      | some v =>
        dsimp only
        rw [if_neg (show ¬ (1 : Int) = 0 by decide)]
        rcases c1 lt v hr with h | h
        · subst h
          rw [if_pos rfl]
          exact next (fun h => by rw [hr] at h; cases h.2) _ _
        · subst h
          rw [if_neg (show ¬ (1 : Int) = 0 by decide), show yl_amtF L k high lt (d + 1) q = yl_clm high (L.2.2.2 q lt) from if_pos ⟨hk, hr⟩]
          obtain ⟨c4, -⟩ := c4 (by rw [hk]; exact hk0)
          obtain ⟨S2, e2⟩ := c4 1 S' lt
          rw [e2, zl_b]
          cases hr2 : L.2.2.2 q lt with
          | none =>
            dsimp only
            rw [if_pos rfl]
            exact ⟨_, _, Or.inl rfl⟩
          | some v =>
            dsimp only
            rw [if_neg (show ¬ (1 : Int) = 0 by decide), ze_Math_min, zl_b, ze_Math_max, zl_b]
            refine ⟨v, S2, Or.inl ?_⟩
            have : (if 0 < (if v < high then v else high) then (if v < high then v else high) else 0) = yl_clm high (some v) := by
              show _ = if v < 0 then 0 else if high < v then high else v
              (repeat' split) <;> omega
            rw [this]
    · rw [if_neg hk]
      exact next (fun h => hk h.1) _ _
theorem yl_amtX (R : yl_R L K V nc tS tL sP lP kd fr hf to mc C mk mf mh mt) {k high f1 : Int} {S : Int → Int} (hk0 : yl_am k) (hh : 0 ≤ high) : ∃ a S', zf_Law_amount k high nc f1 kd hf to K S V lt fr = some (yl_amt L k high lt, a, S') := by
  have hnc := R.1
  obtain ⟨a, S', e⟩ := yl_amtX_l (lt := lt) (k := k) R hk0 hh L.1.toNat 0 f1 S zi_fu (by omega) (by decide) (by have : 1000 < zi_fu := (by decide); omega)
  refine ⟨a, S', ?_⟩
  unfold zf_Law_amount yl_amt
  rcases e with e | ⟨e, e0⟩
  · rw [e, zl_b]; rfl
  · rw [e, zl_b, e0]; rfl
theorem yl_amtM_l (R : yl_R L K V nc tS tL sP lP kd fr hf to mc C mk mf mh mt) {k high : Int} (hk0 : yl_am k) (hh : 0 ≤ high) : ∀ (d : Nat) (q : Int) (S : Int → Int) (n : Nat), q + d = nc → 0 ≤ q → d < n →
    ∃ S', (zf_M_byLaw_l0 k high mc mk mh mt C lt mf n q S = some (.inr (yl_amtF L k high lt d q, S'))) ∨ (zf_M_byLaw_l0 k high mc mk mh mt C lt mf n q S = some (.inl S') ∧ yl_amtF L k high lt d q = 0) := by
  intro d
  induction d with
  | zero =>
    intro q S n e q0 hn
    obtain ⟨n, rfl⟩ : ∃ z, n = z + 1 := ⟨n - 1, by omega⟩
    have hnc := R.1
    refine ⟨S, Or.inr ⟨?_, rfl⟩⟩
    show zf_M_byLaw_l0_b k high mc mk mh mt C lt mf (zf_M_byLaw_l0 k high mc mk mh mt C lt mf n) q S = _
    unfold zf_M_byLaw_l0_b
    rw [if_neg (by omega)]
  | succ d ih =>
    intro q S n e q0 hn
    obtain ⟨n, rfl⟩ : ∃ z, n = z + 1 := ⟨n - 1, by omega⟩
    have hnc := R.1
    obtain ⟨-, k1, k2, k3, k4⟩ := R.2.1 q q0 (by omega)
    obtain ⟨c1, -, c2, c4⟩ := yl_run R q0 (show q < nc by omega)
    show ∃ S', (zf_M_byLaw_l0_b k high mc mk mh mt C lt mf (zf_M_byLaw_l0 k high mc mk mh mt C lt mf n) q S = _) ∨ (zf_M_byLaw_l0_b k high mc mk mh mt C lt mf (zf_M_byLaw_l0 k high mc mk mh mt C lt mf n) q S = _ ∧ _)
    unfold zf_M_byLaw_l0_b
    rw [if_pos (by omega), zl_ci q0 (by omega), k1, k2, k3, k4, zi_w_id (x := q + 1) (by omega) (by omega)]
    have next : ¬ (L.2.1 q = k ∧ L.2.2.1 q lt = some 1) → ∀ S, ∃ S', (zf_M_byLaw_l0 k high mc mk mh mt C lt mf n (q + 1) S = some (.inr (yl_amtF L k high lt (d + 1) q, S'))) ∨ (zf_M_byLaw_l0 k high mc mk mh mt C lt mf n (q + 1) S = some (.inl S') ∧ yl_amtF L k high lt (d + 1) q = 0) := by
      intro hno S
      rw [show yl_amtF L k high lt (d + 1) q = yl_amtF L k high lt d (q + 1) from if_neg hno]
      exact ih (q + 1) S n (by omega) (by omega) (by omega)
    by_cases hk : L.2.1 q = k
    · rw [if_pos hk]
      obtain ⟨S', e1⟩ := c2 S lt
      rw [e1, zl_b]
      cases hr : L.2.2.1 q lt with
      | none =>
        dsimp only
        rw [if_neg (show ¬ (0 : Int) = 1 by decide)]
        exact next (fun h => by rw [hr] at h; cases h.2) _
      | some v =>
        dsimp only
        rcases c1 lt v hr with h | h
        · subst h
          rw [if_neg (show ¬ (0 : Int) = 1 by decide)]
          exact next (fun h => by rw [hr] at h; cases h.2) _
        · subst h
          rw [if_pos rfl, show yl_amtF L k high lt (d + 1) q = yl_clm high (L.2.2.2 q lt) from if_pos ⟨hk, hr⟩]
          obtain ⟨-, c4⟩ := c4 (by rw [hk]; exact hk0)
          obtain ⟨S2, e2⟩ := c4 S' lt
          rw [e2, zl_b]
          cases hr2 : L.2.2.2 q lt with
          | none =>
            dsimp only
            rw [if_neg (show ¬ (0 : Int) < 0 by decide), if_neg (show ¬ high < 0 by omega)]
            exact ⟨_, Or.inl rfl⟩
          | some v =>
            refine ⟨S2, Or.inl ?_⟩
            dsimp only [yl_clm]
            (repeat' split) <;> rfl
    · rw [if_neg hk]
      exact next (fun h => hk h.1) _
theorem yl_amtM (R : yl_R L K V nc tS tL sP lP kd fr hf to mc C mk mf mh mt) {k high : Int} {S : Int → Int} (hk0 : yl_am k) (hh : 0 ≤ high) : ∃ S', zf_M_byLaw k high mc mk mh mt C S lt mf = some (yl_amt L k high lt, S') := by
  have hnc := R.1
  obtain ⟨S', e⟩ := yl_amtM_l (lt := lt) (k := k) R hk0 hh L.1.toNat 0 S zi_fu (by omega) (by decide) (by have : 1000 < zi_fu := (by decide); omega)
  refine ⟨S', ?_⟩
  unfold zf_M_byLaw yl_amt
  rcases e with e | ⟨e, e0⟩
  · rw [e, zl_b]; rfl
  · rw [e, zl_b, e0]; rfl
/-- letters that agree -/
theorem yl_any_c (R : yl_R L K V nc tS tL sP lP kd fr hf to mc C mk mf mh mt) {k : Int} {lt lt2 : Int → Int} (h : ∀ j, 0 ≤ j → j < 13 → lt j = lt2 j) : yl_any L k lt = yl_any L k lt2 := by
  obtain ⟨⟨r1, r2, r3, r4⟩, r5, st, r6, r7, r8, r9⟩ := R
  have : ∀ (d : Nat) (q : Int), q + d = L.1 → 0 ≤ q → yl_anyF L k lt d q = yl_anyF L k lt2 d q := by
    intro d
    induction d with
    | zero => intro q _ _; rfl
    | succ d ih =>
      intro q e q0
      obtain ⟨a1, -, a6, -⟩ := r7 q q0 (by omega)
      have e1 := a6.2.2.1 lt lt2 fun j _ _ _ v1 v2 => h _ v1 v2
      show (if _ then true else _) = (if _ then true else _)
      rw [e1, ih (q + 1) (by omega) (by omega)]
  exact this L.1.toNat 0 (by omega) (by decide)
theorem yl_amt_c (R : yl_R L K V nc tS tL sP lP kd fr hf to mc C mk mf mh mt) {k high : Int} (hk0 : yl_am k) {lt lt2 : Int → Int} (h : ∀ j, 0 ≤ j → j < 13 → lt j = lt2 j) : yl_amt L k high lt = yl_amt L k high lt2 := by
  obtain ⟨⟨r1, r2, r3, r4⟩, r5, st, r6, r7, r8, r9⟩ := R
  have : ∀ (d : Nat) (q : Int), q + d = L.1 → 0 ≤ q → yl_amtF L k high lt d q = yl_amtF L k high lt2 d q := by
    intro d
    induction d with
    | zero => intro q _ _; rfl
    | succ d ih =>
      intro q e q0
      obtain ⟨a1, -, a6, a7⟩ := r7 q q0 (by omega)
      have e1 := a6.2.2.1 lt lt2 fun j _ _ _ v1 v2 => h _ v1 v2
      show (if L.2.1 q = k ∧ L.2.2.1 q lt = some 1 then yl_clm high (L.2.2.2 q lt) else _) = (if L.2.1 q = k ∧ L.2.2.1 q lt2 = some 1 then yl_clm high (L.2.2.2 q lt2) else _)
      rw [e1, ih (q + 1) (by omega) (by omega)]
      by_cases hk : L.2.1 q = k
      · rw [(a7 (by rw [hk]; exact hk0)).2.2.1 lt lt2 fun j _ _ _ v1 v2 => h _ v1 v2]
      · rw [if_neg (fun h => hk h.1), if_neg (fun h => hk h.1)]
  exact this L.1.toNat 0 (by omega) (by decide)
/-- a law that does not ask for the place -/
theorem yl_any_v (R : yl_R L K V nc tS tL sP lP kd fr hf to mc C mk mf mh mt) (hs : sP = 0) {lt lt2 : Int → Int} (h : ∀ j, 0 ≤ j → j < 10 → lt j = lt2 j) : yl_any L 118 lt = yl_any L 118 lt2 := by
  obtain ⟨⟨r1, r2, r3, r4⟩, r5, st, r6, r7, ⟨-, ⟨b1, b2, b3⟩, -⟩, r9⟩ := R
  have : ∀ (d : Nat) (q : Int), q + d = L.1 → 0 ≤ q → yl_anyF L 118 lt d q = yl_anyF L 118 lt2 d q := by
    intro d
    induction d with
    | zero => intro q _ _; rfl
    | succ d ih =>
      intro q e q0
      obtain ⟨a1, -, a6, -⟩ := r7 q q0 (by omega)
      show (if L.2.1 q = 118 ∧ L.2.2.1 q lt = some 1 then true else _) = (if L.2.1 q = 118 ∧ L.2.2.1 q lt2 = some 1 then true else _)
      rw [ih (q + 1) (by omega) (by omega)]
      by_cases hk : L.2.1 q = 118
      · rw [a6.2.2.1 lt lt2 fun j j1 j2 j3 v1 v2 => h _ v1 (by
          have w1 := b1 hs q q0 (by omega) hk j j1 j2 j3
          have w2 := b2 hs q q0 (by omega) hk j j1 j2 j3
          have w3 := b3 hs q q0 (by omega) hk j j1 j2 j3
          omega)]
      · rw [if_neg (fun h => hk h.1), if_neg (fun h => hk h.1)]
  exact this L.1.toNat 0 (by omega) (by decide)
theorem yl_any_j (R : yl_R L K V nc tS tL sP lP kd fr hf to mc C mk mf mh mt) (hs : lP = 0) {lt lt2 : Int → Int} (h : ∀ j, 0 ≤ j → j < 13 → j ≠ 10 → j ≠ 11 → lt j = lt2 j) : yl_any L 106 lt = yl_any L 106 lt2 := by
  obtain ⟨⟨r1, r2, r3, r4⟩, r5, st, r6, r7, ⟨-, -, b1, b2⟩, r9⟩ := R
  have : ∀ (d : Nat) (q : Int), q + d = L.1 → 0 ≤ q → yl_anyF L 106 lt d q = yl_anyF L 106 lt2 d q := by
    intro d
    induction d with
    | zero => intro q _ _; rfl
    | succ d ih =>
      intro q e q0
      obtain ⟨a1, -, a6, -⟩ := r7 q q0 (by omega)
      show (if L.2.1 q = 106 ∧ L.2.2.1 q lt = some 1 then true else _) = (if L.2.1 q = 106 ∧ L.2.2.1 q lt2 = some 1 then true else _)
      rw [ih (q + 1) (by omega) (by omega)]
      by_cases hk : L.2.1 q = 106
      · rw [a6.2.2.1 lt lt2 fun j j1 j2 j3 v1 v2 => h _ v1 v2 (b1 hs q q0 (by omega) hk j j1 j2 j3) (b2 hs q q0 (by omega) hk j j1 j2 j3)]
      · rw [if_neg (fun h => hk h.1), if_neg (fun h => hk h.1)]
  exact this L.1.toNat 0 (by omega) (by decide)
/-- a kind that no clause is of -/
theorem yl_any_0 {k : Int} (h : ∀ q, 0 ≤ q → q < L.1 → L.2.1 q ≠ k) (h0 : 0 ≤ L.1) : yl_any L k lt = false := by
  have : ∀ (d : Nat) (q : Int), q + d = L.1 → 0 ≤ q → yl_anyF L k lt d q = false := by
    intro d
    induction d with
    | zero => intro q _ _; rfl
    | succ d ih =>
      intro q e q0
      show (if _ then true else _) = false
      rw [if_neg (fun hk => h q q0 (by omega) hk.1)]
      exact ih (q + 1) (by omega) (by omega)
  exact this L.1.toNat 0 (by omega) (by decide)
end YLA
end
section
/-! Sets as bits. -/
def zb (a : Int) (j : Nat) : Bool := (Int32.ofInt a).toBitVec.getLsbD j
def z24 (a : Int) : Prop := 0 ≤ a ∧ a ≤ 16777215
theorem zb_ev {op : Int32 → Int32 → Int32} {a b : Int} {j : Nat} : zb (zi_ev op a b) j = (op (Int32.ofInt a) (Int32.ofInt b)).toBitVec.getLsbD j := by
  unfold zb zi_ev
  rw [Int32.ofInt_toInt]
theorem zb_and {a b : Int} {j : Nat} : zb (zi_and a b) j = (zb a j && zb b j) := by
  unfold zi_and
  rw [zb_ev]
  show ((Int32.ofInt a).toBitVec &&& (Int32.ofInt b).toBitVec).getLsbD j = _
  rw [BitVec.getLsbD_and]; rfl
theorem zb_or {a b : Int} {j : Nat} : zb (zi_or a b) j = (zb a j || zb b j) := by
  unfold zi_or
  rw [zb_ev]
  show ((Int32.ofInt a).toBitVec ||| (Int32.ofInt b).toBitVec).getLsbD j = _
  rw [BitVec.getLsbD_or]; rfl
theorem zb_xor {a b : Int} {j : Nat} : zb (zi_xor a b) j = (zb a j ^^ zb b j) := by
  unfold zi_xor
  rw [zb_ev]
  show ((Int32.ofInt a).toBitVec ^^^ (Int32.ofInt b).toBitVec).getLsbD j = _
  rw [BitVec.getLsbD_xor]; rfl
theorem zb_ge {a : Int} {j : Nat} (h : 32 ≤ j) : zb a j = false := BitVec.getLsbD_of_ge _ _ h
theorem zb_m1 {j : Nat} (h : j < 32) : zb (-1) j = true := by
  have hd : ∀ j, j < 32 → zb (-1) j = true := by decide +kernel
  exact hd j h
theorem zb_0 {j : Nat} : zb 0 j = false := by
  by_cases h : j < 32
  · have hd : ∀ j, j < 32 → zb 0 j = false := by decide +kernel
    exact hd j h
  · exact zb_ge (by omega)
theorem zb_1 {j : Nat} : zb 1 j = decide (j = 0) := by
  by_cases h : j < 32
  · have hd : ∀ j, j < 32 → zb 1 j = decide (j = 0) := by decide +kernel
    exact hd j h
  · rw [zb_ge (by omega), decide_eq_false (by omega)]
theorem zb_not {a : Int} {j : Nat} (h : j < 32) : zb (zi_xor a (-1)) j = !zb a j := by
  rw [zb_xor, zb_m1 h, Bool.xor_true]
theorem zb_shl {i : Int} {j : Nat} (h1 : 0 ≤ i) (h2 : i < 32) : zb (zi_shl 1 i) j = decide (j = i.toNat) := by
  have hd : ∀ k : Nat, k < 32 → ∀ j : Nat, j < 32 → zb (zi_shl 1 (k : Int)) j = decide (j = k) := by decide +kernel
  by_cases h : j < 32
  · have := hd i.toNat (by omega) j h
    rwa [show ((i.toNat : Nat) : Int) = i by omega] at this
  · rw [zb_ge (by omega), decide_eq_false (by omega)]
theorem zi_ev_in {op : Int32 → Int32 → Int32} {a b : Int} : -2147483648 ≤ zi_ev op a b ∧ zi_ev op a b ≤ 2147483647 := by
  unfold zi_ev
  have h1 := Int32.le_toInt (op (Int32.ofInt a) (Int32.ofInt b))
  have h2 := Int32.toInt_lt (op (Int32.ofInt a) (Int32.ofInt b))
  constructor <;> omega
theorem zb_ext {a b : Int} (a1 : -2147483648 ≤ a) (a2 : a ≤ 2147483647) (b1 : -2147483648 ≤ b) (b2 : b ≤ 2147483647) (h : ∀ j, j < 32 → zb a j = zb b j) : a = b := by
  have e : Int32.ofInt a = Int32.ofInt b := Int32.toBitVec_inj.mp (BitVec.eq_of_getLsbD_eq fun i hi => h i hi)
  have := congrArg Int32.toInt e
  rwa [zi_of a1 a2, zi_of b1 b2] at this
theorem zb_tb {t : Int} {j : Nat} (h1 : 0 ≤ t) (h2 : t ≤ 2147483647) : zb t j = t.toNat.testBit j := by
  unfold zb BitVec.getLsbD
  rw [zi_nat h1 h2]
theorem zb_tb2 {t i : Int} (h1 : 0 ≤ t) (h2 : t ≤ 2147483647) : zi_tb t i = zb t i.toNat := (zb_tb h1 h2).symm
theorem z24_b {a : Int} (h : z24 a) {j : Nat} (hj : 24 ≤ j) : zb a j = false := by
  obtain ⟨h1, h2⟩ := h
  rw [zb_tb h1 (by omega)]
  refine Nat.testBit_lt_two_pow (Nat.lt_of_lt_of_le (show a.toNat < 2 ^ 24 by omega) (Nat.pow_le_pow_right (by decide) hj))
theorem z24_of {a : Int} (a1 : -2147483648 ≤ a) (a2 : a ≤ 2147483647) (h : ∀ j, 24 ≤ j → j < 32 → zb a j = false) : z24 a := by
  have h0 : 0 ≤ a := by
    apply Int.not_lt.mp
    intro hn
    have hs := h 31 (by decide) (by decide)
    unfold zb at hs
    have e := zi_of a1 a2
    have e2 : (Int32.ofInt a).toBitVec.toInt = a := e
    have hm : (Int32.ofInt a).toBitVec.msb = false := by
      rw [BitVec.msb_eq_getLsbD_last]; exact hs
    rw [BitVec.toInt_eq_msb_cond, hm] at e2
    simp at e2
    omega
  refine ⟨h0, ?_⟩
  have hl : a.toNat < 2 ^ 24 := Nat.lt_pow_two_of_testBit _ fun i hi => by
    by_cases h32 : i < 32
    · rw [← zb_tb h0 a2]; exact h i hi h32
    · rw [← zb_tb h0 a2]; exact zb_ge (by omega)
  omega
theorem z24_or {a b : Int} (h1 : z24 a) (h2 : z24 b) : z24 (zi_or a b) := by
  have := zi_ev_in (op := fun x y => x ||| y) (a := a) (b := b)
  exact z24_of this.1 this.2 fun j j1 _ => by rw [zb_or, z24_b h1 j1, z24_b h2 j1]; rfl
theorem z24_and {a b : Int} (h1 : z24 a) : z24 (zi_and a b) := by
  have := zi_ev_in (op := fun x y => x &&& y) (a := a) (b := b)
  exact z24_of this.1 this.2 fun j j1 _ => by rw [zb_and, z24_b h1 j1]; rfl
theorem z24_and2 {a b : Int} (h1 : z24 b) : z24 (zi_and a b) := by
  have := zi_ev_in (op := fun x y => x &&& y) (a := a) (b := b)
  exact z24_of this.1 this.2 fun j j1 _ => by rw [zb_and, z24_b h1 j1, Bool.and_false]
theorem z24_xor {a b : Int} (h1 : z24 a) (h2 : z24 b) : z24 (zi_xor a b) := by
  have := zi_ev_in (op := fun x y => x ^^^ y) (a := a) (b := b)
  exact z24_of this.1 this.2 fun j j1 _ => by rw [zb_xor, z24_b h1 j1, z24_b h2 j1]; rfl
theorem z24_shl {i : Int} (h1 : 0 ≤ i) (h2 : i < 24) : z24 (zi_shl 1 i) := by
  have := zi_ev_in (op := fun x y => x <<< (y &&& 31)) (a := 1) (b := i)
  exact z24_of this.1 this.2 fun j j1 _ => by rw [zb_shl h1 (by omega), decide_eq_false (by omega)]
theorem z24_0 : z24 0 := ⟨by decide, by decide⟩
theorem z24_ext {a b : Int} (h1 : z24 a) (h2 : z24 b) (h : ∀ j, j < 24 → zb a j = zb b j) : a = b := by
  obtain ⟨a1, a2⟩ := id h1
  obtain ⟨b1, b2⟩ := id h2
  refine zb_ext (by omega) (by omega) (by omega) (by omega) fun j _ => ?_
  by_cases hj : j < 24
  · exact h j hj
  · rw [z24_b h1 (by omega), z24_b h2 (by omega)]
theorem z24_z {a : Int} (h1 : z24 a) : a = 0 ↔ ∀ j, j < 24 → zb a j = false :=
  ⟨fun e j _ => by rw [e]; exact zb_0, fun h => z24_ext h1 z24_0 fun j hj => by rw [h j hj]; exact zb_0.symm⟩
theorem zb_bit {t i : Int} (k1 : 0 ≤ i) (k2 : i < 32) : zi_and (zi_shr t i) 1 = if zb t i.toNat = true then 1 else 0 := by
  have hs : zb (zi_shr t i) 0 = zb t i.toNat := by
    unfold zi_shr
    rw [zb_ev]
    show ((Int32.ofInt t).toBitVec.sshiftRight' ((Int32.ofInt i &&& 31).toBitVec.smod 32)).getLsbD 0 = _
    unfold BitVec.sshiftRight'
    rw [zi_amt k1 k2, BitVec.getLsbD_sshiftRight, if_pos (by omega)]
    simp [zb]
  have hin := zi_ev_in (op := fun x y => x &&& y) (a := zi_shr t i) (b := 1)
  refine zb_ext hin.1 hin.2 (by split <;> decide) (by split <;> decide) fun j _ => ?_
  show zb (zi_and (zi_shr t i) 1) j = _
  rw [zb_and, zb_1]
  by_cases hj : j = 0
  · subst hj
    rw [hs, decide_eq_true rfl, Bool.and_true]
    cases h : zb t i.toNat
    · rw [if_neg (by decide)]; exact zb_0.symm
    · rw [if_pos rfl, zb_1]; rfl
  · rw [decide_eq_false hj, Bool.and_false]
    split
    · rw [zb_1, decide_eq_false hj]
    · exact zb_0.symm
theorem zb_bit1 {t i : Int} (k1 : 0 ≤ i) (k2 : i < 32) (h : zb t i.toNat = true) : zi_and (zi_shr t i) 1 = 1 := by rw [zb_bit k1 k2, if_pos h]
theorem zb_bit0 {t i : Int} (k1 : 0 ≤ i) (k2 : i < 32) (h : ¬ zb t i.toNat = true) : zi_and (zi_shr t i) 1 = 0 := by rw [zb_bit k1 k2, if_neg h]
/-- a set that is made one by one, up from below -/
theorem zb_grow {s i : Int} {n : Nat} {P : Nat → Bool} (e : i = n) (hn : n < 24) (h : ∀ j, zb s j = (decide (j < n) && P j)) : ∀ j, zb (if P n = true then zi_or s (zi_shl 1 i) else s) j = (decide (j < n + 1) && P j) := by
  intro j
  by_cases hp : P n = true
  · rw [if_pos hp, zb_or, zb_shl (by omega) (by omega), h, show i.toNat = n by omega]
    by_cases ej : j = n
    · subst ej
      rw [decide_eq_true (show j = j from rfl), decide_eq_true (show j < j + 1 by omega), hp, Bool.or_true]; rfl
    · rw [decide_eq_false ej, Bool.or_false]
      congr 1
      by_cases hj : j < n
      · rw [decide_eq_true hj, decide_eq_true (by omega)]
      · rw [decide_eq_false hj, decide_eq_false (by omega)]
  · rw [if_neg hp, h]
    by_cases ej : j = n
    · subst ej
      rw [Bool.eq_false_iff.mpr hp, Bool.and_false, Bool.and_false]
    · congr 1
      by_cases hj : j < n
      · rw [decide_eq_true hj, decide_eq_true (by omega)]
      · rw [decide_eq_false hj, decide_eq_false (by omega)]
end
section
/-! What is seen: one star, on both sides. -/
def yg_ab (a : Int) : Int := if a < 0 then -a else a
def yg_cb (a b : Int) : Int := if 24 - yg_ab (a - b) < yg_ab (a - b) then 24 - yg_ab (a - b) else yg_ab (a - b)
def yg_tr (a b : Int) : Int := if 12 < (b - a + 24) % 24 then (b - a + 24) % 24 - 24 else (b - a + 24) % 24
theorem ze_Math_ab2 {a : Int} (h1 : -2147483648 < a) (h2 : a ≤ 2147483647) : zf_Math_abs a = some (yg_ab a) := by
  unfold zf_Math_abs yg_ab
  by_cases h : a < 0
  · rw [if_pos h, if_pos h, zi_w_id (by omega) (by omega)]
  · rw [if_neg h, if_neg h]
theorem ze_M_size2 {a : Int} (h1 : -2147483648 < a) (h2 : a ≤ 2147483647) : zf_M_size a = some (yg_ab a) := by
  unfold zf_M_size yg_ab
  by_cases h : a < 0
  · rw [if_pos h, if_pos h, zi_w_id (by omega) (by omega)]
  · rw [if_neg h, if_neg h]
theorem yg_ab_in {a : Int} : 0 ≤ yg_ab a ∧ (yg_ab a = a ∨ yg_ab a = -a) := by
  unfold yg_ab
  split <;> omega
theorem ze_colsBetween {a b : Int} (a1 : 0 ≤ a) (a2 : a ≤ 23) (b1 : 0 ≤ b) (b2 : b ≤ 23) : zf_X_columnsBetween a b = some (yg_cb a b) ∧ 0 ≤ yg_cb a b ∧ yg_cb a b ≤ 12 := by
  have h := yg_ab_in (a := a - b)
  refine ⟨?_, ?_, ?_⟩
  · unfold zf_X_columnsBetween
    rw [zi_w_id (x := a - b) (by omega) (by omega), ze_Math_ab2 (by omega) (by omega), zl_b, zi_w_id (x := 24 - yg_ab (a - b)) (by omega) (by omega), ze_Math_min, zl_b]
    rfl
  · unfold yg_cb; split <;> omega
  · unfold yg_cb; split <;> omega
theorem ze_toRight {a b : Int} (a1 : 0 ≤ a) (a2 : a ≤ 23) (b1 : 0 ≤ b) (b2 : b ≤ 23) : zf_M_toRight a b = some (yg_tr a b) ∧ -11 ≤ yg_tr a b ∧ yg_tr a b ≤ 12 ∧ yg_ab (yg_tr a b) = yg_cb b a := by
  refine ⟨?_, ?_, ?_, ?_⟩
  · unfold zf_M_toRight
    rw [zi_w_id (x := b - a) (by omega) (by omega), zi_w_id (x := b - a + 24) (by omega) (by omega), zi_rem_eq (by omega) (by omega) (by decide) (by decide), zi_w_id (by omega) (by omega)]
    unfold yg_tr
    split <;> rfl
  · unfold yg_tr; split <;> omega
  · unfold yg_tr; split <;> omega
  · unfold yg_tr yg_cb yg_ab
    (repeat' split) <;> omega
theorem ze_way {a b c d : Int} (a1 : 0 ≤ a) (a2 : a ≤ 23) (c1 : 0 ≤ c) (c2 : c ≤ 23) (b1 : 0 ≤ b) (b2 : b ≤ 11) (d1 : 0 ≤ d) (d2 : d ≤ 11) : zf_M_way a b c d = some (yg_cb c a + yg_ab (b - d)) := by
  obtain ⟨e1, e2, e3, e4⟩ := ze_toRight a1 a2 c1 c2
  have h := yg_ab_in (a := b - d)
  have h2 := (ze_colsBetween c1 c2 a1 a2).2
  unfold zf_M_way
  rw [e1, zl_b, ze_M_size2 (by omega) (by omega), zl_b, zi_w_id (x := b - d) (by omega) (by omega), ze_M_size2 (by omega) (by omega), zl_b, e4, zi_w_id (by omega) (by omega)]
/-- the sky on both sides -/
def yk_sky (t h u cl sc sr ch : Int) (co ro br wc wr m : Int → Int) : Prop :=
  (z24 t ∧ m 126 = t) ∧ ((0 ≤ h ∧ h ≤ 23) ∧ m 128 = h) ∧ m 129 = u ∧ (z24 cl ∧ m 130 = cl) ∧ ((0 ≤ sc ∧ sc ≤ 11) ∧ m 131 = sc) ∧ ((0 ≤ sr ∧ sr ≤ 11) ∧ m 132 = sr) ∧ ((0 ≤ ch ∧ ch ≤ 65535) ∧ m 133 = ch) ∧
  ∀ i, 0 ≤ i → i < 24 → ((0 ≤ co i ∧ co i ≤ 23) ∧ (0 ≤ ro i ∧ ro i ≤ 11) ∧ (0 ≤ br i ∧ br i ≤ 9) ∧ (-3 ≤ wc i ∧ wc i ≤ 3) ∧ (-3 ≤ wr i ∧ wr i ≤ 3)) ∧ ((0 ≤ m i ∧ m i ≤ 23) ∧ (0 ≤ m (24 + i) ∧ m (24 + i) ≤ 11) ∧ (0 ≤ m (48 + i) ∧ m (48 + i) ≤ 9) ∧ (-3 ≤ m (72 + i) ∧ m (72 + i) ≤ 3) ∧ (-3 ≤ m (96 + i) ∧ m (96 + i) ≤ 3)) ∧
    (zb t i.toNat = true → m i = co i ∧ m (24 + i) = ro i ∧ m (48 + i) = br i ∧ m (72 + i) = wc i ∧ m (96 + i) = wr i)
/-- the letters for a star, from a place -/
def yv_lt (h u i b r c x y d : Int) : Int → Int := fun j => if j = 0 then h else if j = 1 then u else if j = 2 then i else if j = 3 then b else if j = 4 then r else if j = 5 then c else if j = 10 then x else if j = 11 then y else if j = 12 then d else 0
/-- what lies under, while stars are set -/
def yv_ba (h u x y : Int) (g : Int → Int) : Prop := g 0 = h ∧ g 1 = u ∧ g 6 = 0 ∧ g 7 = 0 ∧ g 8 = 0 ∧ g 9 = 0 ∧ g 10 = x ∧ g 11 = y
theorem yv_13 {P : Int → Prop} (h0 : P 0) (h1 : P 1) (h2 : P 2) (h3 : P 3) (h4 : P 4) (h5 : P 5) (h6 : P 6) (h7 : P 7) (h8 : P 8) (h9 : P 9) (h10 : P 10) (h11 : P 11) (h12 : P 12) : ∀ j, 0 ≤ j → j < 13 → P j := by
  intro j j0 j1
  have : j = 0 ∨ j = 1 ∨ j = 2 ∨ j = 3 ∨ j = 4 ∨ j = 5 ∨ j = 6 ∨ j = 7 ∨ j = 8 ∨ j = 9 ∨ j = 10 ∨ j = 11 ∨ j = 12 := by omega
  rcases this with e | e | e | e | e | e | e | e | e | e | e | e | e <;> subst e <;> assumption
theorem yv_lt_of {h u i b r c x y d : Int} {g : Int → Int} (hg : yv_ba h u x y g) (e2 : g 2 = i) (e3 : g 3 = b) (e4 : g 4 = r) (e5 : g 5 = c) (e12 : g 12 = d) : ∀ j, 0 ≤ j → j < 13 → g j = yv_lt h u i b r c x y d j := by
  obtain ⟨g0, g1, g6, g7, g8, g9, g10, g11⟩ := hg
  exact yv_13 g0 g1 e2 e3 e4 e5 g6 g7 g8 g9 g10 g11 e12
theorem ze_fill13_l0 {v : Int} : ∀ (d : Nat) (j : Int) (g : Int → Int) (n : Nat), j + d = 13 → 0 ≤ j → d < n → ∃ g2, zf_Arrays_fill_13_l0 v 13 n j g = some g2 ∧ (∀ i, j ≤ i → i < 13 → g2 i = v) ∧ ∀ i, i < j → g2 i = g i := by
  intro d
  induction d with
  | zero =>
    intro j g n e j0 hn
    obtain ⟨n, rfl⟩ : ∃ q, n = q + 1 := ⟨n - 1, by omega⟩
    refine ⟨g, ?_, fun i a b => by omega, fun _ _ => rfl⟩
    show zf_Arrays_fill_13_l0_b v 13 (zf_Arrays_fill_13_l0 v 13 n) j g = _
    unfold zf_Arrays_fill_13_l0_b
    rw [if_neg (by omega)]
  | succ d ih =>
    intro j g n e j0 hn
    obtain ⟨n, rfl⟩ : ∃ q, n = q + 1 := ⟨n - 1, by omega⟩
    show ∃ g2, zf_Arrays_fill_13_l0_b v 13 (zf_Arrays_fill_13_l0 v 13 n) j g = some g2 ∧ _
    unfold zf_Arrays_fill_13_l0_b
    rw [if_pos (by omega), zl_ci j0 (by omega), zi_w_id (x := j + 1) (by omega) (by omega)]
    obtain ⟨g2, e2, a, b⟩ := ih (j + 1) (zv_up g j v) n (by omega) (by omega) (by omega)
    refine ⟨g2, e2, fun i i1 i2 => ?_, fun i i1 => ?_⟩
    · by_cases ei : i = j
      · subst ei; rw [b i (by omega), zv_up_s]
      · exact a i (by omega) i2
    · rw [b i (by omega), zv_up_n (by omega)]
theorem ze_forget {g : Int → Int} : ∃ g2, zf_Law_forgetLetters g = some g2 ∧ ∀ i, 0 ≤ i → i < 13 → g2 i = 0 := by
  obtain ⟨g2, e, a, -⟩ := ze_fill13_l0 (v := 0) 13 0 g zi_fu rfl (by decide) (by decide)
  refine ⟨g2, ?_, a⟩
  unfold zf_Law_forgetLetters zf_Arrays_fill_13
  rw [e]; rfl
theorem ze_goTo {x y f0 f1 h u : Int} {g : Int → Int} : ∃ g2, zf_View_goTo x y f0 f1 h u g = some (x, y, g2) ∧ yv_ba h u x y g2 := by
  obtain ⟨g2, e, a⟩ := ze_forget (g := g)
  refine ⟨zv_up (zv_up (zv_up (zv_up g2 0 h) 1 u) 10 x) 11 y, ?_, ?_⟩
  · unfold zf_View_goTo zf_Law_setTime
    rw [e]; rfl
  · have k := fun i h1 h2 => a i h1 h2
    refine ⟨rfl, rfl, ?_, ?_, ?_, ?_, rfl, rfl⟩
    · exact k 6 (by decide) (by decide)
    · exact k 7 (by decide) (by decide)
    · exact k 8 (by decide) (by decide)
    · exact k 9 (by decide) (by decide)
theorem ze_M_feels_l0 : ∀ (d : Nat) (j : Int) (g : Int → Int) (n : Nat), j + d = 13 → 0 ≤ j → d < n → ∃ g2, zf_M_feels_l0 n j g = some g2 ∧ (∀ i, j ≤ i → i < 13 → g2 i = 0) ∧ ∀ i, i < j → g2 i = g i := by
  intro d
  induction d with
  | zero =>
    intro j g n e j0 hn
    obtain ⟨n, rfl⟩ : ∃ q, n = q + 1 := ⟨n - 1, by omega⟩
    refine ⟨g, ?_, fun i a b => by omega, fun _ _ => rfl⟩
    show zf_M_feels_l0_b (zf_M_feels_l0 n) j g = _
    unfold zf_M_feels_l0_b
    rw [if_neg (by omega)]
  | succ d ih =>
    intro j g n e j0 hn
    obtain ⟨n, rfl⟩ : ∃ q, n = q + 1 := ⟨n - 1, by omega⟩
    show ∃ g2, zf_M_feels_l0_b (zf_M_feels_l0 n) j g = some g2 ∧ _
    unfold zf_M_feels_l0_b
    rw [if_pos (by omega), zl_ci j0 (by omega), zi_w_id (x := j + 1) (by omega) (by omega)]
    obtain ⟨g2, e2, a, b⟩ := ih (j + 1) (zv_up g j 0) n (by omega) (by omega) (by omega)
    refine ⟨g2, e2, fun i i1 i2 => ?_, fun i i1 => ?_⟩
    · by_cases ei : i = j
      · subst ei; rw [b i (by omega), zv_up_s]
      · exact a i (by omega) i2
    · rw [b i (by omega), zv_up_n (by omega)]
theorem ze_M_feels {g m : Int → Int} : ∃ g2, zf_M_feels g m = some g2 ∧ g2 0 = m 128 ∧ g2 1 = m 129 ∧ ∀ i, 2 ≤ i → i < 13 → g2 i = 0 := by
  obtain ⟨g2, e, a, -⟩ := ze_M_feels_l0 13 0 g zi_fu rfl (by decide) (by decide)
  refine ⟨zv_up (zv_up g2 0 (m 128)) 1 (m 129), ?_, rfl, rfl, fun i i1 i2 => ?_⟩
  · unfold zf_M_feels
    rw [e]; rfl
  · rw [zv_up_n (by omega), zv_up_n (by omega)]; exact a i (by omega) i2
theorem ze_M_feelsStar {i : Int} {g m : Int → Int} (i1 : 0 ≤ i) (i2 : i < 24) (c1 : 0 ≤ m i) (c2 : m i ≤ 23) (h1 : 0 ≤ m 128) (h2 : m 128 ≤ 23) : ∃ g2, zf_M_feelsStar i g m = some g2 ∧ g2 0 = m 128 ∧ g2 1 = m 129 ∧ g2 2 = i ∧ g2 3 = m (48 + i) ∧ g2 4 = m (24 + i) ∧ g2 5 = (m i + m 128) % 24 ∧ ∀ j, 6 ≤ j → j < 13 → g2 j = 0 := by
  obtain ⟨g2, e, a0, a1, a⟩ := ze_M_feels (g := g) (m := m)
  refine ⟨zv_up (zv_up (zv_up (zv_up g2 2 i) 3 (m (48 + i))) 4 (m (24 + i))) 5 ((m i + m 128) % 24), ?_, a0, a1, rfl, rfl, rfl, rfl, fun j j1 j2 => ?_⟩
  · unfold zf_M_feelsStar
    rw [e, zl_b, zi_w_id (x := 48 + i) (by omega) (by omega), zi_w_id (x := 24 + i) (by omega) (by omega), zl_ci (by omega) (by omega), zl_ci (by omega) (by omega), ze_M_standsAt i1 i2 c1 c2 h1 h2, zl_b]
  · rw [zv_up_n (by omega), zv_up_n (by omega), zv_up_n (by omega), zv_up_n (by omega)]
    exact a j (by omega) j2
theorem ze_M_hasClause_l0 {k nc : Int} {mk : Int → Int} (h14 : nc ≤ 14) : ∀ (d : Nat) (j : Int) (n : Nat), nc - j ≤ d → 0 ≤ j → d < n → (zf_M_hasClause_l0 k nc mk n j = some (.inl ()) ∧ ∀ i, j ≤ i → i < nc → mk i ≠ k) ∨ (zf_M_hasClause_l0 k nc mk n j = some (.inr 1) ∧ ∃ i, j ≤ i ∧ i < nc ∧ mk i = k) := by
  intro d
  induction d with
  | zero =>
    intro j n e j0 hn
    obtain ⟨n, rfl⟩ : ∃ q, n = q + 1 := ⟨n - 1, by omega⟩
    refine Or.inl ⟨?_, fun i a b => by omega⟩
    show zf_M_hasClause_l0_b k nc mk (zf_M_hasClause_l0 k nc mk n) j = _
    unfold zf_M_hasClause_l0_b
    rw [if_neg (by omega)]
  | succ d ih =>
    intro j n e j0 hn
    obtain ⟨n, rfl⟩ : ∃ q, n = q + 1 := ⟨n - 1, by omega⟩
    show (zf_M_hasClause_l0_b k nc mk (zf_M_hasClause_l0 k nc mk n) j = _ ∧ _) ∨ (zf_M_hasClause_l0_b k nc mk (zf_M_hasClause_l0 k nc mk n) j = _ ∧ _)
    unfold zf_M_hasClause_l0_b
    by_cases hj : j < nc
    · rw [if_pos hj, zl_ci j0 (by omega), zi_w_id (x := j + 1) (by omega) (by omega)]
      by_cases h : mk j = k
      · rw [if_pos h]; exact Or.inr ⟨rfl, j, Int.le_refl _, hj, h⟩
      · rw [if_neg h]
        rcases ih (j + 1) n (by omega) (by omega) (by omega) with ⟨a, b⟩ | ⟨a, i, b1, b2, b3⟩
        · exact Or.inl ⟨a, fun i i1 i2 => by
            by_cases e : i = j
            · subst e; exact h
            · exact b i (by omega) i2⟩
        · exact Or.inr ⟨a, i, by omega, b2, b3⟩
    · rw [if_neg hj]; exact Or.inl ⟨rfl, fun i a b => by omega⟩
theorem ze_M_hasClause {L : zLW} {K V kd fr hf to C mk mf mh mt : Int → Int} {nc tS tL sP lP mc : Int} (R : yl_R L K V nc tS tL sP lP kd fr hf to mc C mk mf mh mt) : zf_M_hasClause 118 mc mk = some tS ∧ (tS = 0 ∨ tS = 1) := by
  obtain ⟨⟨r1, r2, r3, r4⟩, r5, st, r6, r7, ⟨⟨t1, -⟩, -⟩, r9⟩ := R
  refine ⟨?_, by rcases t1 with ⟨h, _⟩ | ⟨h, _⟩ <;> omega⟩
  unfold zf_M_hasClause
  rcases ze_M_hasClause_l0 (k := 118) (mk := mk) (show mc ≤ 14 by omega) mc.toNat 0 zi_fu (by omega) (by decide) (by have : 1000 < zi_fu := (by decide); omega) with ⟨a, b⟩ | ⟨a, i, b1, b2, b3⟩
  · rw [a, zl_b]
    rcases t1 with ⟨h, q, q1, q2, q3⟩ | ⟨h, _⟩
    · exact absurd ((r5 q q1 (by omega)).2.1.trans q3) (b q q1 (by omega))
    · rw [h]; rfl
  · rw [a, zl_b]
    rcases t1 with ⟨h, _⟩ | ⟨h, hn⟩
    · rw [h]; rfl
    · exact absurd ((r5 i b1 (by omega)).2.1.symm.trans b3) (hn i b1 (by omega))
end
section
/-! One star, seen or not, on both sides. -/
def yv_st (h : Int) (co : Int → Int) (i : Int) : Int := (co i + h) % 24
def yv_see (L : zLW) (tS h u cl sc sr : Int) (co ro br : Int → Int) (x y i : Int) : Bool :=
  decide (yg_cb (yv_st h co i) x ≤ sc ∧ yg_ab (ro i - y) ≤ sr) && (!(zb cl (yv_st h co i).toNat) && (decide (tS = 0) || yl_any L 118 (yv_lt h u i (br i) (ro i) (yv_st h co i) x y (yg_cb (yv_st h co i) x + yg_ab (ro i - y)))))
/-- what a view knows already -/
def yv_ca (L : zLW) (sP h u : Int) (co ro br : Int → Int) (as ho : Int) : Prop := ∀ j : Nat, j < 24 → zb as j = true → sP = 0 ∧ zb ho j = yl_any L 118 (yv_lt h u j (br j) (ro j) (yv_st h co j) 0 0 0)
theorem yv_ba_up {h u x y a b c d e : Int} {g : Int → Int} (hg : yv_ba h u x y g) : yv_ba h u x y (zv_up (zv_up (zv_up (zv_up (zv_up g 2 a) 3 b) 4 c) 5 d) 12 e) := hg
theorem ze_setStar {i h : Int} {g br ro co : Int → Int} (i1 : 0 ≤ i) (i2 : i < 24) (c1 : 0 ≤ co i) (c2 : co i ≤ 23) (h1 : 0 ≤ h) (h2 : h ≤ 23) : zf_Law_setStar i h g br ro co = some (zv_up (zv_up (zv_up (zv_up g 2 i) 3 (br i)) 4 (ro i)) 5 (yv_st h co i)) := by
  unfold zf_Law_setStar
  rw [zl_ci i1 (by omega), ze_Sky_standing i1 i2 c1 c2 h1 h2, zl_b]
  rfl
theorem yv_st_in {h i : Int} {co : Int → Int} : 0 ≤ yv_st h co i ∧ yv_st h co i ≤ 23 := by
  unfold yv_st
  omega
theorem zs_has1 {n t i : Int} (h1 : 0 ≤ t) (h2 : t ≤ 2147483647) (i1 : 0 ≤ i) (i2 : i < n) (h : zb t i.toNat = true) : zs_has n t i = 1 := by
  unfold zs_has
  rw [zb_tb2 h1 h2]
  exact if_pos ⟨i1, i2, h⟩
theorem zs_has0 {n t i : Int} (h1 : 0 ≤ t) (h2 : t ≤ 2147483647) (h : ¬ zb t i.toNat = true) : zs_has n t i = 0 := by
  unfold zs_has
  rw [zb_tb2 h1 h2]
  exact if_neg fun hh => h hh.2.2
section YVS
variable {L : zLW} {K V kd fr hf to C mk mf mh mt : Int → Int} {nc tS tL sP lP mc : Int} {t h u cl sc sr x y i : Int} {co ro br : Int → Int}
theorem yv_any (R : yl_R L K V nc tS tL sP lP kd fr hf to mc C mk mf mh mt) {g : Int → Int} {d : Int} (hg : yv_ba h u x y g) : yl_any L 118 (zv_up (zv_up (zv_up (zv_up (zv_up g 2 i) 3 (br i)) 4 (ro i)) 5 (yv_st h co i)) 12 d) = yl_any L 118 (yv_lt h u i (br i) (ro i) (yv_st h co i) x y d) :=
  yl_any_c R (yv_lt_of (yv_ba_up hg) rfl rfl rfl rfl rfl)
theorem yv_any0 (R : yl_R L K V nc tS tL sP lP kd fr hf to mc C mk mf mh mt) (hs : sP = 0) {a b c d : Int} {x2 y2 d2 : Int} : yl_any L 118 (yv_lt h u i a b c x y d) = yl_any L 118 (yv_lt h u i a b c x2 y2 d2) :=
  yl_any_v R hs fun j j0 j1 => by
    unfold yv_lt
    have e1 : ¬ j = 10 := by omega
    have e2 : ¬ j = 11 := by omega
    have e3 : ¬ j = 12 := by omega
    rw [if_neg e1, if_neg e1, if_neg e2, if_neg e2, if_neg e3, if_neg e3]
theorem yx_sees (R : yl_R L K V nc tS tL sP lP kd fr hf to mc C mk mf mh mt) {as ho f13 : Int} {g S : Int → Int} (ht : z24 t) (hcl : z24 cl) (h1 : 0 ≤ h) (h2 : h ≤ 23) (i1 : 0 ≤ i) (i2 : i < 24) (c1 : 0 ≤ co i) (c2 : co i ≤ 23) (r1 : 0 ≤ ro i) (r2 : ro i ≤ 11) (x1 : 0 ≤ x) (x2 : x ≤ 23) (y1 : 0 ≤ y) (y2 : y ≤ 11) (hg : yv_ba h u x y g) (hc : yv_ca L sP h u co ro br as ho) :
    ∃ as' ho' a' g' S', zf_View_sees i t h x y sc sr cl tS as ho nc f13 sP co ro g br kd hf to K S V = some ((if (zb t i.toNat && yv_see L tS h u cl sc sr co ro br x y i) = true then 1 else 0), as', ho', a', g', S') ∧ yv_ba h u x y g' ∧ yv_ca L sP h u co ro br as' ho' := by
  have hst := yv_st_in (h := h) (co := co) (i := i)
  obtain ⟨b1, b2, b3⟩ := ze_colsBetween hst.1 hst.2 x1 x2
  have hab := yg_ab_in (a := ro i - y)
  have tin : 0 ≤ t ∧ t ≤ 2147483647 := ⟨ht.1, by have := ht.2; omega⟩
  unfold zf_View_sees
  rw [ze_Sky_hasStar tin.1 tin.2, zl_b]
  by_cases hti : zb t i.toNat = true
  · rw [zs_has1 tin.1 tin.2 i1 i2 hti, if_neg (show ¬ (1 : Int) = 0 by decide), ze_Sky_standing i1 i2 c1 c2 h1 h2, zl_b, show (co i + h) % 24 = yv_st h co i from rfl, b1, zl_b, zl_ci i1 (by omega), zi_w_id (x := ro i - y) (by omega) (by omega), ze_Math_ab2 (by omega) (by omega), zl_b, hti, Bool.true_and]
    unfold yv_see
    by_cases n1 : sc < yg_cb (yv_st h co i) x
    · rw [if_pos n1, decide_eq_false (by omega), Bool.false_and, if_neg (by decide)]
      exact ⟨as, ho, f13, g, S, rfl, hg, hc⟩
    rw [if_neg n1]
    by_cases n2 : sr < yg_ab (ro i - y)
    · rw [if_pos n2, decide_eq_false (by omega), Bool.false_and, if_neg (by decide)]
      exact ⟨as, ho, f13, g, S, rfl, hg, hc⟩
    rw [if_neg n2, decide_eq_true (⟨by omega, by omega⟩ : yg_cb (yv_st h co i) x ≤ sc ∧ yg_ab (ro i - y) ≤ sr), Bool.true_and]
    by_cases n3 : zb cl (yv_st h co i).toNat = true
    · rw [zb_bit1 hst.1 (by omega) n3, if_neg (show ¬ (1 : Int) = 0 by decide), n3, Bool.not_true, Bool.false_and, if_neg (by decide)]
      exact ⟨as, ho, f13, g, S, rfl, hg, hc⟩
    rw [zb_bit0 hst.1 (by omega) n3, if_pos rfl, Bool.eq_false_iff.mpr n3, Bool.not_false, Bool.true_and]
    by_cases n4 : tS = 0
    · rw [if_pos n4, decide_eq_true n4, Bool.true_or, if_pos rfl]
      exact ⟨as, ho, f13, g, S, rfl, hg, hc⟩
    rw [if_neg n4, decide_eq_false n4, Bool.false_or]
    by_cases n5 : zb as i.toNat = true
    · rw [zb_bit1 i1 (by omega) n5, if_neg (show ¬ (1 : Int) = 0 by decide)]
      obtain ⟨s0, q⟩ := hc i.toNat (by omega) n5
      rw [show ((i.toNat : Nat) : Int) = i by omega] at q
      rw [yv_any0 R s0 (x2 := 0) (y2 := 0) (d2 := 0), ← q]
      by_cases n6 : zb ho i.toNat = true
      · rw [zb_bit1 i1 (by omega) n6, if_neg (show ¬ (1 : Int) = 0 by decide), if_pos n6]
        exact ⟨as, ho, f13, g, S, rfl, hg, hc⟩
      · rw [zb_bit0 i1 (by omega) n6, if_pos rfl, if_neg n6]
        exact ⟨as, ho, f13, g, S, rfl, hg, hc⟩
    rw [zb_bit0 i1 (by omega) n5, if_pos rfl, ze_setStar i1 i2 c1 c2 h1 h2, zl_b, zi_w_id (x := yg_cb (yv_st h co i) x + yg_ab (ro i - y)) (by omega) (by omega)]
    obtain ⟨a', S', ea⟩ := yl_anyX (lt := zv_up (zv_up (zv_up (zv_up (zv_up g 2 i) 3 (br i)) 4 (ro i)) 5 (yv_st h co i)) 12 (yg_cb (yv_st h co i) x + yg_ab (ro i - y))) R (k := 118) (f1 := f13) (S := S)
    rw [ea, zl_b, yv_any R hg]
    have hg2 : yv_ba h u x y (zv_up (zv_up (zv_up (zv_up (zv_up g 2 i) 3 (br i)) 4 (ro i)) 5 (yv_st h co i)) 12 (yg_cb (yv_st h co i) x + yg_ab (ro i - y))) := yv_ba_up hg
    have hnot : zb (zi_and ho (zi_xor (zi_shl 1 i) (-1))) i.toNat = false := by
      rw [zb_and, zb_not (by omega), zb_shl i1 (by omega), decide_eq_true rfl, Bool.not_true, Bool.and_false]
    have hset : zb (zi_or ho (zi_shl 1 i)) i.toNat = true := by
      rw [zb_or, zb_shl i1 (by omega), decide_eq_true rfl, Bool.or_true]
    have upd : ∀ ho', (∀ j : Nat, j < 24 → j ≠ i.toNat → zb ho' j = zb ho j) → (sP = 0 → zb ho' i.toNat = yl_any L 118 (yv_lt h u i (br i) (ro i) (yv_st h co i) x y (yg_cb (yv_st h co i) x + yg_ab (ro i - y)))) → (sP = 0 → yv_ca L sP h u co ro br (zi_or as (zi_shl 1 i)) ho') ∧ (sP ≠ 0 → yv_ca L sP h u co ro br as ho') := by
      intro ho' q1 q2
      refine ⟨fun s0 j hj hb => ⟨s0, ?_⟩, fun s0 j hj hb => absurd (hc j hj hb).1 s0⟩
      by_cases ej : j = i.toNat
      · subst ej
        rw [q2 s0, show ((i.toNat : Nat) : Int) = i by omega]
        exact yv_any0 R s0
      · rw [zb_or, zb_shl i1 (by omega), decide_eq_false ej, Bool.or_false] at hb
        rw [q1 j hj ej]
        exact (hc j hj hb).2
    have oth1 : ∀ j : Nat, j < 24 → j ≠ i.toNat → zb (zi_or ho (zi_shl 1 i)) j = zb ho j := fun j hj ej => by
      rw [zb_or, zb_shl i1 (by omega), decide_eq_false ej, Bool.or_false]
    have oth0 : ∀ j : Nat, j < 24 → j ≠ i.toNat → zb (zi_and ho (zi_xor (zi_shl 1 i) (-1))) j = zb ho j := fun j hj ej => by
      rw [zb_and, zb_not (by omega), zb_shl i1 (by omega), decide_eq_false ej, Bool.not_false, Bool.and_true]
    by_cases n6 : yl_any L 118 (yv_lt h u i (br i) (ro i) (yv_st h co i) x y (yg_cb (yv_st h co i) x + yg_ab (ro i - y))) = true
    · rw [if_pos n6, if_neg (show ¬ (1 : Int) = 0 by decide), zb_bit1 i1 (by omega) hset, if_neg (show ¬ (1 : Int) = 0 by decide), if_neg (show ¬ (1 : Int) = 0 by decide)]
      obtain ⟨u1, u2⟩ := upd _ oth1 (fun _ => by rw [hset, n6])
      by_cases n7 : sP = 0
      · rw [if_pos n7]
        exact ⟨_, _, _, _, _, rfl, hg2, u1 n7⟩
      · rw [if_neg n7]
        exact ⟨_, _, _, _, _, rfl, hg2, u2 n7⟩
    · rw [if_neg n6, if_pos rfl, zb_bit0 i1 (by omega) (by rw [hnot]; decide), if_pos rfl, if_pos rfl]
      obtain ⟨u1, u2⟩ := upd _ oth0 (fun _ => by rw [hnot]; exact (Bool.eq_false_iff.mpr n6).symm)
      by_cases n7 : sP = 0
      · rw [if_pos n7]
        exact ⟨_, _, _, _, _, rfl, hg2, u1 n7⟩
      · rw [if_neg n7]
        exact ⟨_, _, _, _, _, rfl, hg2, u2 n7⟩
  · rw [zs_has0 tin.1 tin.2 hti, if_pos rfl, Bool.eq_false_iff.mpr hti, Bool.false_and, if_neg (by decide)]
    exact ⟨as, ho, f13, g, S, rfl, hg, hc⟩
theorem ym_isSeen (R : yl_R L K V nc tS tL sP lP kd fr hf to mc C mk mf mh mt) {ch : Int} {wc wr m g S : Int → Int} (k : yk_sky t h u cl sc sr ch co ro br wc wr m) (i1 : 0 ≤ i) (i2 : i < 24) (hti : zb t i.toNat = true) (x1 : 0 ≤ x) (x2 : x ≤ 23) (y1 : 0 ≤ y) (y2 : y ≤ 11) :
    ∃ g' S', zf_M_isSeen (24 * y + x) i mc m mk g mh mt C S = some ((if yv_see L tS h u cl sc sr co ro br x y i = true then 1 else 0), g', S') := by
  obtain ⟨⟨ht, k126⟩, ⟨⟨h1, h2⟩, k128⟩, k129, ⟨hcl, k130⟩, ⟨⟨sc1, sc2⟩, k131⟩, ⟨⟨sr1, sr2⟩, k132⟩, -, ki⟩ := k
  obtain ⟨⟨⟨c1, c2⟩, ⟨r1, r2⟩, ⟨b1, b2⟩, -⟩, -, e⟩ := ki i i1 i2
  obtain ⟨e1, e2, e3, -, -⟩ := e hti
  have hst := yv_st_in (h := h) (co := co) (i := i)
  have hab := yg_ab_in (a := ro i - y)
  have ex : zi_rem (24 * y + x) 24 = x := by rw [zi_rem_eq (by omega) (by omega) (by decide) (by decide)]; omega
  have ey : zi_div (24 * y + x) 24 = y := by rw [zi_div_eq (by omega) (by omega) (by decide) (by decide)]; omega
  have est : (m i + m 128) % 24 = yv_st h co i := by rw [e1, k128]; rfl
  obtain ⟨t1, t2, t3, t4⟩ := ze_toRight x1 x2 hst.1 hst.2
  obtain ⟨-, q1, q2⟩ := ze_colsBetween hst.1 hst.2 x1 x2
  unfold zf_M_isSeen
  rw [ze_M_standsAt i1 i2 (by omega) (by omega) (by omega) (by omega), zl_b, est, ex, ey, t1, zl_b, ze_M_size2 (by omega) (by omega), zl_b, t4, zi_w_id (x := 24 + i) (by omega) (by omega), zl_ci (by omega) (by omega), e2, zi_w_id (x := ro i - y) (by omega) (by omega), ze_M_size2 (by omega) (by omega), zl_b, k131, k132, k130]
  unfold yv_see
  by_cases n1 : sc < yg_cb (yv_st h co i) x
  · rw [if_pos n1, decide_eq_false (by omega), Bool.false_and, if_neg (by decide)]
    exact ⟨_, _, rfl⟩
  rw [if_neg n1]
  by_cases n2 : sr < yg_ab (ro i - y)
  · rw [if_pos n2, decide_eq_false (by omega), Bool.false_and, if_neg (by decide)]
    exact ⟨_, _, rfl⟩
  rw [if_neg n2, decide_eq_true (⟨by omega, by omega⟩ : yg_cb (yv_st h co i) x ≤ sc ∧ yg_ab (ro i - y) ≤ sr), Bool.true_and]
  rw [ze_M_has hcl.1 (by have := hcl.2; omega) hst.1 (by omega), zl_b, zb_tb2 hcl.1 (by have := hcl.2; omega)]
  by_cases n3 : zb cl (yv_st h co i).toNat = true
  · rw [if_pos n3, if_neg (show ¬ (1 : Int) = 0 by decide), n3, Bool.not_true, Bool.false_and, if_neg (by decide)]
    exact ⟨_, _, rfl⟩
  obtain ⟨hc1, hc2⟩ := ze_M_hasClause R
  rw [if_neg n3, if_pos rfl, Bool.eq_false_iff.mpr n3, Bool.not_false, Bool.true_and, hc1, zl_b]
  by_cases n4 : tS = 0
  · rw [if_pos n4, decide_eq_true n4, Bool.true_or, if_pos rfl]
    exact ⟨_, _, rfl⟩
  rw [if_neg n4, decide_eq_false n4, Bool.false_or]
  obtain ⟨g2, eg, w0, w1, w2, w3, w4, w5, w6⟩ := ze_M_feelsStar (g := g) (m := m) i1 i2 (by omega) (by omega) (by omega) (by omega)
  rw [eg, zl_b, ze_way x1 x2 hst.1 hst.2 y1 y2 (by omega) (by omega), zl_b]
  obtain ⟨S', ea⟩ := yl_anyM (lt := zv_up (zv_up (zv_up g2 10 x) 11 y) 12 (yg_cb (yv_st h co i) x + yg_ab (y - ro i))) R (k := 118) (S := S)
  have el : yl_any L 118 (zv_up (zv_up (zv_up g2 10 x) 11 y) 12 (yg_cb (yv_st h co i) x + yg_ab (y - ro i))) = yl_any L 118 (yv_lt h u i (br i) (ro i) (yv_st h co i) x y (yg_cb (yv_st h co i) x + yg_ab (ro i - y))) := by
    refine yl_any_c R (yv_lt_of ⟨?_, ?_, ?_, ?_, ?_, ?_, rfl, rfl⟩ ?_ ?_ ?_ ?_ ?_)
    · exact w0.trans k128
    · exact w1.trans k129
    · exact w6 6 (by decide) (by decide)
    · exact w6 7 (by decide) (by decide)
    · exact w6 8 (by decide) (by decide)
    · exact w6 9 (by decide) (by decide)
    · exact w2
    · exact w3.trans e3
    · exact w4.trans e2
    · exact w5.trans est
    · show yg_cb (yv_st h co i) x + yg_ab (y - ro i) = yg_cb (yv_st h co i) x + yg_ab (ro i - y)
      have : yg_ab (y - ro i) = yg_ab (ro i - y) := by
        unfold yg_ab
        (repeat' split) <;> omega
      rw [this]
  rw [ea, zl_b, el]
  by_cases n6 : yl_any L 118 (yv_lt h u i (br i) (ro i) (yv_st h co i) x y (yg_cb (yv_st h co i) x + yg_ab (ro i - y))) = true
  · rw [if_pos n6]
    exact ⟨_, _, rfl⟩
  · rw [if_neg n6]
    exact ⟨_, _, rfl⟩
end YVS
end
section
/-! What is seen from a place: the same set on both sides. -/
/-- the set of the stars that are seen -/
def yv_is (L : zLW) (tS t h u cl sc sr : Int) (co ro br : Int → Int) (x y s : Int) : Prop := z24 s ∧ ∀ j : Nat, zb s j = (decide (j < 24) && (zb t j && yv_see L tS h u cl sc sr co ro br x y j))
theorem yv_is_eq {L : zLW} {tS t h u cl sc sr : Int} {co ro br : Int → Int} {x y s s2 : Int} (a : yv_is L tS t h u cl sc sr co ro br x y s) (b : yv_is L tS t h u cl sc sr co ro br x y s2) : s = s2 := z24_ext a.1 b.1 fun j _ => by rw [a.2, b.2]
section YVL
variable {L : zLW} {K V kd fr hf to C mk mf mh mt : Int → Int} {nc tS tL sP lP mc : Int} {t h u cl sc sr ch x y : Int} {co ro br wc wr m : Int → Int}
theorem yx_look_l (R : yl_R L K V nc tS tL sP lP kd fr hf to mc C mk mf mh mt) (k : yk_sky t h u cl sc sr ch co ro br wc wr m) (x1 : 0 ≤ x) (x2 : x ≤ 23) (y1 : 0 ≤ y) (y2 : y ≤ 11) : ∀ (d n0 : Nat) (s as ho f : Int) (g S : Int → Int) (n : Nat), n0 + d = 24 → d < n → z24 s → (∀ j : Nat, zb s j = (decide (j < n0) && (zb t j && yv_see L tS h u cl sc sr co ro br x y j))) → yv_ba h u x y g → yv_ca L sP h u co ro br as ho →
    ∃ s' as' ho' a' g' S', zf_View_look_l0 x y h t sc sr cl tS nc sP co ro br kd hf to K V n (n0 : Int) s as ho f g S = some (s', as', ho', a', g', S') ∧ yv_is L tS t h u cl sc sr co ro br x y s' ∧ yv_ba h u x y g' ∧ yv_ca L sP h u co ro br as' ho' := by
  intro d
  induction d with
  | zero =>
    intro n0 s as ho f g S n e hn hz hs hg hc
    obtain ⟨n, rfl⟩ : ∃ q, n = q + 1 := ⟨n - 1, by omega⟩
    refine ⟨s, as, ho, f, g, S, ?_, ⟨hz, fun j => by rw [hs, show n0 = 24 by omega]⟩, hg, hc⟩
    show zf_View_look_l0_b x y h t sc sr cl tS nc sP co ro br kd hf to K V (zf_View_look_l0 x y h t sc sr cl tS nc sP co ro br kd hf to K V n) (n0 : Int) s as ho f g S = _
    unfold zf_View_look_l0_b
    rw [if_neg (by omega)]
  | succ d ih =>
    intro n0 s as ho f g S n e hn hz hs hg hc
    obtain ⟨n, rfl⟩ : ∃ q, n = q + 1 := ⟨n - 1, by omega⟩
    obtain ⟨⟨ht, -⟩, ⟨⟨h1, h2⟩, -⟩, -, ⟨hcl, -⟩, -, -, -, ki⟩ := id k
    obtain ⟨⟨⟨c1, c2⟩, ⟨r1, r2⟩, -⟩, -⟩ := ki (n0 : Int) (by omega) (by omega)
    obtain ⟨as', ho', a', g', S', e1, hg', hc'⟩ := yx_sees (t := t) (cl := cl) (sc := sc) (sr := sr) (f13 := f) (S := S) R ht hcl h1 h2 (show 0 ≤ (n0 : Int) by omega) (by omega) c1 c2 r1 r2 x1 x2 y1 y2 hg hc
    show ∃ s' as' ho' a' g' S', zf_View_look_l0_b x y h t sc sr cl tS nc sP co ro br kd hf to K V (zf_View_look_l0 x y h t sc sr cl tS nc sP co ro br kd hf to K V n) (n0 : Int) s as ho f g S = _ ∧ _
    unfold zf_View_look_l0_b
    rw [if_pos (by omega), e1, zl_b, zi_w_id (x := (n0 : Int) + 1) (by omega) (by omega)]
    have grow := zb_grow (s := s) (i := (n0 : Int)) (n := n0) (P := fun j => (zb t j && yv_see L tS h u cl sc sr co ro br x y j)) rfl (by omega) hs
    rw [show ((n0 : Int)).toNat = n0 by omega]
    by_cases hp : (zb t n0 && yv_see L tS h u cl sc sr co ro br x y n0) = true
    · rw [if_pos hp] at grow ⊢
      rw [if_neg (show ¬ (1 : Int) = 0 by decide)]
      exact ih (n0 + 1) _ as' ho' a' g' S' n (by omega) (by omega) (z24_or hz (z24_shl (by omega) (by omega))) grow hg' hc'
    · rw [if_neg hp] at grow ⊢
      rw [if_pos rfl]
      exact ih (n0 + 1) s as' ho' a' g' S' n (by omega) (by omega) hz grow hg' hc'
theorem yx_look (R : yl_R L K V nc tS tL sP lP kd fr hf to mc C mk mf mh mt) (k : yk_sky t h u cl sc sr ch co ro br wc wr m) (x1 : 0 ≤ x) (x2 : x ≤ 23) (y1 : 0 ≤ y) (y2 : y ≤ 11) {f2 f3 f6 as ho f : Int} {g S : Int → Int} (hc : yv_ca L sP h u co ro br as ho) :
    ∃ s' as' ho' a' g' S', zf_View_look x y f2 f3 h u f6 t sc sr cl tS as ho nc f sP g co ro br kd hf to K S V = some (x, y, s', as', ho', a', g', S') ∧ yv_is L tS t h u cl sc sr co ro br x y s' ∧ yv_ca L sP h u co ro br as' ho' := by
  obtain ⟨g1, eg, hg⟩ := ze_goTo (x := x) (y := y) (f0 := f2) (f1 := f3) (h := h) (u := u) (g := g)
  obtain ⟨s', as', ho', a', g', S', e1, e2, -, e4⟩ := yx_look_l R k x1 x2 y1 y2 24 0 0 as ho f g1 S zi_fu rfl (by decide) z24_0 (fun j => by rw [zb_0, decide_eq_false (by omega), Bool.false_and]) hg hc
  refine ⟨s', as', ho', a', g', S', ?_, e2, e4⟩
  unfold zf_View_look
  rw [eg, zl_b]
  show ((zf_View_look_l0 x y h t sc sr cl tS nc sP co ro br kd hf to K V zi_fu 0 0 as ho f g1 S).bind _) = _
  rw [show zf_View_look_l0 x y h t sc sr cl tS nc sP co ro br kd hf to K V zi_fu 0 0 as ho f g1 S = _ from e1, zl_b]
theorem ym_seenFrom_l (R : yl_R L K V nc tS tL sP lP kd fr hf to mc C mk mf mh mt) (k : yk_sky t h u cl sc sr ch co ro br wc wr m) (x1 : 0 ≤ x) (x2 : x ≤ 23) (y1 : 0 ≤ y) (y2 : y ≤ 11) : ∀ (d n0 : Nat) (s : Int) (g S : Int → Int) (n : Nat), n0 + d = 24 → d < n → z24 s → (∀ j : Nat, zb s j = (decide (j < n0) && (zb t j && yv_see L tS h u cl sc sr co ro br x y j))) →
    ∃ s' g' S', zf_M_seenFrom_l0 (24 * y + x) mc m mk mh mt C n s (n0 : Int) g S = some (s', g', S') ∧ yv_is L tS t h u cl sc sr co ro br x y s' := by
  intro d
  induction d with
  | zero =>
    intro n0 s g S n e hn hz hs
    obtain ⟨n, rfl⟩ : ∃ q, n = q + 1 := ⟨n - 1, by omega⟩
    refine ⟨s, g, S, ?_, ⟨hz, fun j => by rw [hs, show n0 = 24 by omega]⟩⟩
    show zf_M_seenFrom_l0_b (24 * y + x) mc m mk mh mt C (zf_M_seenFrom_l0 (24 * y + x) mc m mk mh mt C n) s (n0 : Int) g S = _
    unfold zf_M_seenFrom_l0_b
    rw [if_neg (by omega)]
  | succ d ih =>
    intro n0 s g S n e hn hz hs
    obtain ⟨n, rfl⟩ : ∃ q, n = q + 1 := ⟨n - 1, by omega⟩
    obtain ⟨⟨ht, k126⟩, -⟩ := id k
    have tin : 0 ≤ t ∧ t ≤ 2147483647 := ⟨ht.1, by have := ht.2; omega⟩
    have grow := zb_grow (s := s) (i := (n0 : Int)) (n := n0) (P := fun j => (zb t j && yv_see L tS h u cl sc sr co ro br x y j)) rfl (by omega) hs
    have en : ((n0 : Int)).toNat = n0 := by omega
    show ∃ s' g' S', zf_M_seenFrom_l0_b (24 * y + x) mc m mk mh mt C (zf_M_seenFrom_l0 (24 * y + x) mc m mk mh mt C n) s (n0 : Int) g S = _ ∧ _
    unfold zf_M_seenFrom_l0_b
    rw [if_pos (by omega), ze_M_isTold (by rw [k126]; exact tin.1) (by rw [k126]; exact tin.2), zl_b, k126, zi_w_id (x := (n0 : Int) + 1) (by omega) (by omega)]
    by_cases hti : zb t n0 = true
    · rw [zs_has1 tin.1 tin.2 (by omega) (by omega) (by rw [en]; exact hti), if_neg (show ¬ (1 : Int) = 0 by decide)]
      obtain ⟨g', S', e1⟩ := ym_isSeen (g := g) (S := S) R k (show 0 ≤ (n0 : Int) by omega) (by omega) (by rw [en]; exact hti) x1 x2 y1 y2
      rw [e1, zl_b]
      rw [hti, Bool.true_and] at grow
      by_cases hp : yv_see L tS h u cl sc sr co ro br x y n0 = true
      · rw [if_pos hp] at grow ⊢
        rw [if_neg (show ¬ (1 : Int) = 0 by decide)]
        exact ih (n0 + 1) _ g' S' n (by omega) (by omega) (z24_or hz (z24_shl (by omega) (by omega))) grow
      · rw [if_neg hp] at grow ⊢
        rw [if_pos rfl]
        exact ih (n0 + 1) s g' S' n (by omega) (by omega) hz grow
    · rw [zs_has0 tin.1 tin.2 (by rw [en]; exact hti), if_pos rfl]
      rw [Bool.eq_false_iff.mpr hti, Bool.false_and, if_neg (by decide)] at grow
      exact ih (n0 + 1) s g S n (by omega) (by omega) hz grow
theorem ym_seenFrom (R : yl_R L K V nc tS tL sP lP kd fr hf to mc C mk mf mh mt) (k : yk_sky t h u cl sc sr ch co ro br wc wr m) (x1 : 0 ≤ x) (x2 : x ≤ 23) (y1 : 0 ≤ y) (y2 : y ≤ 11) {g S : Int → Int} :
    ∃ s' g' S', zf_M_seenFrom (24 * y + x) mc m mk g mh mt C S = some (s', g', S') ∧ yv_is L tS t h u cl sc sr co ro br x y s' := by
  obtain ⟨s', g', S', e1, e2⟩ := ym_seenFrom_l R k x1 x2 y1 y2 24 0 0 g S zi_fu rfl (by decide) z24_0 (fun j => by rw [zb_0, decide_eq_false (by omega), Bool.false_and])
  refine ⟨s', g', S', ?_, e2⟩
  unfold zf_M_seenFrom
  rw [show zf_M_seenFrom_l0 (24 * y + x) mc m mk mh mt C zi_fu 0 0 g S = _ from e1, zl_b]
theorem yv_ca0 {ho : Int} : yv_ca L sP h u co ro br 0 ho := fun j _ hb => by rw [zb_0] at hb; cases hb
end YVL
end
section
/-! Lines between two stars, on both sides. -/
def yv_lj (h u i b r c k b2 r2 c2 x y d : Int) : Int → Int := fun j => if j = 0 then h else if j = 1 then u else if j = 2 then i else if j = 3 then b else if j = 4 then r else if j = 5 then c else if j = 6 then k else if j = 7 then b2 else if j = 8 then r2 else if j = 9 then c2 else if j = 10 then x else if j = 11 then y else if j = 12 then d else 0
def yv_bj (h u x y : Int) (g : Int → Int) : Prop := g 0 = h ∧ g 1 = u ∧ g 10 = x ∧ g 11 = y
theorem yv_lj_of {h u i b r c k b2 r2 c2 x y d : Int} {g : Int → Int} (hg : yv_bj h u x y g) (e2 : g 2 = i) (e3 : g 3 = b) (e4 : g 4 = r) (e5 : g 5 = c) (e6 : g 6 = k) (e7 : g 7 = b2) (e8 : g 8 = r2) (e9 : g 9 = c2) (e12 : g 12 = d) : ∀ j, 0 ≤ j → j < 13 → g j = yv_lj h u i b r c k b2 r2 c2 x y d j := by
  obtain ⟨g0, g1, g10, g11⟩ := hg
  exact yv_13 g0 g1 e2 e3 e4 e5 e6 e7 e8 e9 g10 g11 e12
/-- whether a law draws a line between two -/
def yv_dr (L : zLW) (h u : Int) (co ro br : Int → Int) (x y a b : Int) : Bool := yl_any L 106 (yv_lj h u a (br a) (ro a) (yv_st h co a) b (br b) (ro b) (yv_st h co b) x y (yg_cb (co a) (co b) + yg_ab (ro a - ro b)))
def yv_cp (L : zLW) (lP h u : Int) (co ro br pa ph : Int → Int) : Prop := ∀ a b : Nat, a < 24 → b < 24 → zb (pa a) b = true → lP = 0 ∧ zb (ph a) b = yv_dr L h u co ro br 0 0 a b
theorem ze_setOther {i h : Int} {g br ro co : Int → Int} (i1 : 0 ≤ i) (i2 : i < 24) (c1 : 0 ≤ co i) (c2 : co i ≤ 23) (h1 : 0 ≤ h) (h2 : h ≤ 23) : zf_Law_setOther i h g br ro co = some (zv_up (zv_up (zv_up (zv_up g 6 i) 7 (br i)) 8 (ro i)) 9 (yv_st h co i)) := by
  unfold zf_Law_setOther
  rw [zl_ci i1 (by omega), ze_Sky_standing i1 i2 c1 c2 h1 h2, zl_b]
  rfl
section YVD
variable {L : zLW} {K V kd fr hf to C mk mf mh mt : Int → Int} {nc tS tL sP lP mc : Int} {t h u cl sc sr ch x y a b : Int} {co ro br : Int → Int}
theorem yv_dr0 (R : yl_R L K V nc tS tL sP lP kd fr hf to mc C mk mf mh mt) (hs : lP = 0) {x2 y2 : Int} : yv_dr L h u co ro br x y a b = yv_dr L h u co ro br x2 y2 a b :=
  yl_any_j R hs fun j j0 j1 e1 e2 => by
    unfold yv_lj
    rw [if_neg e1, if_neg e1, if_neg e2, if_neg e2]
theorem yx_isDrawn (R : yl_R L K V nc tS tL sP lP kd fr hf to mc C mk mf mh mt) {f4 : Int} {pa ph g S : Int → Int} (h1 : 0 ≤ h) (h2 : h ≤ 23) (a1 : 0 ≤ a) (a2 : a < 24) (b1 : 0 ≤ b) (b2 : b < 24) (rg : ∀ i, 0 ≤ i → i < 24 → (0 ≤ co i ∧ co i ≤ 23) ∧ (0 ≤ ro i ∧ ro i ≤ 11)) (hg : yv_bj h u x y g) (hc : yv_cp L lP h u co ro br pa ph) :
    ∃ f' pa' ph' g' S', zf_View_isDrawn a b h nc f4 lP pa ph g br ro co kd hf to K S V = some ((if yv_dr L h u co ro br x y a b = true then 1 else 0), f', pa', ph', g', S') ∧ yv_bj h u x y g' ∧ yv_cp L lP h u co ro br pa' ph' := by
  obtain ⟨⟨ca1, ca2⟩, ⟨ra1, ra2⟩⟩ := rg a a1 a2
  obtain ⟨⟨cb1, cb2⟩, ⟨rb1, rb2⟩⟩ := rg b b1 b2
  obtain ⟨q1, q2, q3⟩ := ze_colsBetween ca1 ca2 cb1 cb2
  have hab := yg_ab_in (a := ro a - ro b)
  unfold zf_View_isDrawn
  rw [zl_ci a1 (by omega)]
  have ea : ((a.toNat : Nat) : Int) = a := by omega
  have eb : ((b.toNat : Nat) : Int) = b := by omega
  by_cases n5 : zb (pa a) b.toNat = true
  · rw [zb_bit1 b1 (by omega) n5, if_neg (show ¬ (1 : Int) = 0 by decide)]
    obtain ⟨s0, q⟩ := hc a.toNat b.toNat (by omega) (by omega) (by rw [ea]; exact n5)
    rw [ea, eb] at q
    rw [yv_dr0 R s0 (x2 := 0) (y2 := 0), ← q]
    by_cases n6 : zb (ph a) b.toNat = true
    · rw [zb_bit1 b1 (by omega) n6, if_neg (show ¬ (1 : Int) = 0 by decide), if_pos n6]
      exact ⟨_, _, _, _, _, rfl, hg, hc⟩
    · rw [zb_bit0 b1 (by omega) n6, if_pos rfl, if_neg n6]
      exact ⟨_, _, _, _, _, rfl, hg, hc⟩
  rw [zb_bit0 b1 (by omega) n5, if_pos rfl, ze_setStar a1 a2 ca1 ca2 h1 h2, zl_b, ze_setOther b1 b2 cb1 cb2 h1 h2, zl_b, zl_ci b1 (by omega), q1, zl_b, zi_w_id (x := ro a - ro b) (by omega) (by omega), ze_Math_ab2 (by omega) (by omega), zl_b, zi_w_id (x := yg_cb (co a) (co b) + yg_ab (ro a - ro b)) (by omega) (by omega)]
  generalize hlt : zv_up (zv_up (zv_up (zv_up (zv_up (zv_up (zv_up (zv_up (zv_up g 2 a) 3 (br a)) 4 (ro a)) 5 (yv_st h co a)) 6 b) 7 (br b)) 8 (ro b)) 9 (yv_st h co b)) 12 (yg_cb (co a) (co b) + yg_ab (ro a - ro b)) = lt
  have hbj : yv_bj h u x y lt := by rw [← hlt]; exact hg
  have hel : yl_any L 106 lt = yv_dr L h u co ro br x y a b := yl_any_c R (yv_lj_of hbj (by rw [← hlt]; rfl) (by rw [← hlt]; rfl) (by rw [← hlt]; rfl) (by rw [← hlt]; rfl) (by rw [← hlt]; rfl) (by rw [← hlt]; rfl) (by rw [← hlt]; rfl) (by rw [← hlt]; rfl) (by rw [← hlt]; rfl))
  obtain ⟨a', S', e1⟩ := yl_anyX (lt := lt) R (k := 106) (f1 := f4) (S := S)
  rw [e1, zl_b, hel]
  have hnot : zb (zi_and (ph a) (zi_xor (zi_shl 1 b) (-1))) b.toNat = false := by
    rw [zb_and, zb_not (by omega), zb_shl b1 (by omega), decide_eq_true rfl, Bool.not_true, Bool.and_false]
  have hset : zb (zi_or (ph a) (zi_shl 1 b)) b.toNat = true := by
    rw [zb_or, zb_shl b1 (by omega), decide_eq_true rfl, Bool.or_true]
  have upd : ∀ v, (∀ j : Nat, j < 24 → j ≠ b.toNat → zb v j = zb (ph a) j) → (zb v b.toNat = yv_dr L h u co ro br x y a b) → (lP = 0 → yv_cp L lP h u co ro br (zv_up pa a (zi_or (pa a) (zi_shl 1 b))) (zv_up ph a v)) ∧ (lP ≠ 0 → yv_cp L lP h u co ro br pa (zv_up ph a v)) := by
    intro v q1 q2
    refine ⟨fun s0 i j hi hj hb => ⟨s0, ?_⟩, fun s0 i j hi hj hb => absurd (hc i j hi hj hb).1 s0⟩
    by_cases ei : (i : Int) = a
    · rw [ei] at hb ⊢
      rw [zv_up_s] at hb ⊢
      by_cases ej : j = b.toNat
      · subst ej
        rw [q2, eb]
        exact yv_dr0 R s0
      · rw [zb_or, zb_shl b1 (by omega), decide_eq_false ej, Bool.or_false] at hb
        rw [q1 j hj ej, ← ei]
        rw [← ei] at hb
        exact (hc i j hi hj hb).2
    · rw [zv_up_n ei] at hb ⊢
      exact (hc i j hi hj hb).2
  have oth1 : ∀ j : Nat, j < 24 → j ≠ b.toNat → zb (zi_or (ph a) (zi_shl 1 b)) j = zb (ph a) j := fun j hj ej => by
    rw [zb_or, zb_shl b1 (by omega), decide_eq_false ej, Bool.or_false]
  have oth0 : ∀ j : Nat, j < 24 → j ≠ b.toNat → zb (zi_and (ph a) (zi_xor (zi_shl 1 b) (-1))) j = zb (ph a) j := fun j hj ej => by
    rw [zb_and, zb_not (by omega), zb_shl b1 (by omega), decide_eq_false ej, Bool.not_false, Bool.and_true]
  by_cases n6 : yv_dr L h u co ro br x y a b = true
  · rw [if_pos n6, if_neg (show ¬ (1 : Int) = 0 by decide), zv_up_s, zb_bit1 b1 (by omega) hset, if_neg (show ¬ (1 : Int) = 0 by decide), if_neg (show ¬ (1 : Int) = 0 by decide)]
    obtain ⟨u1, u2⟩ := upd _ oth1 (by rw [hset, n6])
    by_cases n7 : lP = 0
    · rw [if_pos n7]
      exact ⟨_, _, _, _, _, rfl, hbj, u1 n7⟩
    · rw [if_neg n7]
      exact ⟨_, _, _, _, _, rfl, hbj, u2 n7⟩
  · rw [if_neg n6, if_pos rfl, zv_up_s, zb_bit0 b1 (by omega) (by rw [hnot]; decide), if_pos rfl, if_pos rfl]
    obtain ⟨u1, u2⟩ := upd _ oth0 (by rw [hnot]; exact (Bool.eq_false_iff.mpr n6).symm)
    by_cases n7 : lP = 0
    · rw [if_pos n7]
      exact ⟨_, _, _, _, _, rfl, hbj, u1 n7⟩
    · rw [if_neg n7]
      exact ⟨_, _, _, _, _, rfl, hbj, u2 n7⟩
theorem yg_turn {a b h : Int} (a1 : 0 ≤ a) (a2 : a ≤ 23) (b1 : 0 ≤ b) (b2 : b ≤ 23) (h1 : 0 ≤ h) (h2 : h ≤ 23) : yg_cb ((b + h) % 24) ((a + h) % 24) = yg_cb a b := by
  unfold yg_cb yg_ab
  (repeat' split) <;> omega
theorem ym_isDrawn (R : yl_R L K V nc tS tL sP lP kd fr hf to mc C mk mf mh mt) {wc wr m g S : Int → Int} (k : yk_sky t h u cl sc sr ch co ro br wc wr m) (a1 : 0 ≤ a) (a2 : a < 24) (b1 : 0 ≤ b) (b2 : b < 24) (hta : zb t a.toNat = true) (htb : zb t b.toNat = true) (x1 : 0 ≤ x) (x2 : x ≤ 23) (y1 : 0 ≤ y) (y2 : y ≤ 11) :
    ∃ g' S', zf_M_isDrawn (24 * y + x) a b mc g m mk mh mt C S = some ((if yv_dr L h u co ro br x y a b = true then 1 else 0), g', S') := by
  obtain ⟨⟨ht, k126⟩, ⟨⟨h1, h2⟩, k128⟩, k129, -, -, -, -, ki⟩ := k
  obtain ⟨⟨⟨ca1, ca2⟩, ⟨ra1, ra2⟩, -⟩, -, ea⟩ := ki a a1 a2
  obtain ⟨⟨⟨cb1, cb2⟩, ⟨rb1, rb2⟩, -⟩, -, eb⟩ := ki b b1 b2
  obtain ⟨ea1, ea2, ea3, -, -⟩ := ea hta
  obtain ⟨eb1, eb2, eb3, -, -⟩ := eb htb
  have ex : zi_rem (24 * y + x) 24 = x := by rw [zi_rem_eq (by omega) (by omega) (by decide) (by decide)]; omega
  have ey : zi_div (24 * y + x) 24 = y := by rw [zi_div_eq (by omega) (by omega) (by decide) (by decide)]; omega
  have esa : (m a + m 128) % 24 = yv_st h co a := by rw [ea1, k128]; rfl
  have esb : (m b + m 128) % 24 = yv_st h co b := by rw [eb1, k128]; rfl
  have hsa := yv_st_in (h := h) (co := co) (i := a)
  have hsb := yv_st_in (h := h) (co := co) (i := b)
  obtain ⟨g2, eg, w0, w1, w2, w3, w4, w5, w6⟩ := ze_M_feelsStar (g := g) (m := m) a1 a2 (by omega) (by omega) (by omega) (by omega)
  unfold zf_M_isDrawn
  rw [eg, zl_b, zi_w_id (x := 48 + b) (by omega) (by omega), zi_w_id (x := 24 + b) (by omega) (by omega), zi_w_id (x := 24 + a) (by omega) (by omega), zl_ci (by omega) (by omega), zl_ci (by omega) (by omega), ze_M_standsAt b1 b2 (by omega) (by omega) (by omega) (by omega), ze_M_standsAt a1 a2 (by omega) (by omega) (by omega) (by omega), zl_b, zl_b, zl_ci (by omega) (by omega), zl_b, esa, esb, ea2, eb2, ex, ey, ze_way hsa.1 hsa.2 hsb.1 hsb.2 ra1 ra2 rb1 rb2, zl_b]
  generalize hlt : zv_up (zv_up (zv_up (zv_up (zv_up (zv_up (zv_up g2 6 b) 7 (m (48 + b))) 8 (ro b)) 9 (yv_st h co b)) 10 x) 11 y) 12 (yg_cb (yv_st h co b) (yv_st h co a) + yg_ab (ro a - ro b)) = lt
  have hbj : yv_bj h u x y lt := by
    rw [← hlt]
    exact ⟨w0.trans k128, w1.trans k129, rfl, rfl⟩
  have hel : yl_any L 106 lt = yv_dr L h u co ro br x y a b := by
    refine yl_any_c R (yv_lj_of hbj ?_ ?_ ?_ ?_ ?_ ?_ ?_ ?_ ?_)
    · rw [← hlt]; exact w2
    · rw [← hlt]; exact w3.trans ea3
    · rw [← hlt]; exact w4.trans ea2
    · rw [← hlt]; exact w5.trans esa
    · rw [← hlt]; rfl
    · rw [← hlt]; exact eb3
    · rw [← hlt]; rfl
    · rw [← hlt]; rfl
    · rw [← hlt]
      show yg_cb (yv_st h co b) (yv_st h co a) + yg_ab (ro a - ro b) = yg_cb (co a) (co b) + yg_ab (ro a - ro b)
      unfold yv_st
      rw [yg_turn ca1 ca2 cb1 cb2 h1 h2]
  obtain ⟨S', e1⟩ := yl_anyM (lt := lt) R (k := 106) (S := S)
  rw [e1, zl_b, hel]
  by_cases n6 : yv_dr L h u co ro br x y a b = true
  · rw [if_pos n6]
    exact ⟨_, _, rfl⟩
  · rw [if_neg n6]
    exact ⟨_, _, rfl⟩
end YVD
end
section
/-! All lines from a place, on both sides the same. -/
/-- whether there is a line between two, in a set of the seen, by a law -/
def yv_lk (s : Int) (D : Nat → Nat → Bool) (i j : Nat) : Bool := (decide (i ≠ j) && (zb s i && zb s j)) && D (min i j) (max i j)
def yv_pr (a b p q : Nat) : Bool := decide (p < a ∨ (p = a ∧ q < b))
def yv_jn (s : Int) (D : Nat → Nat → Bool) (G : Int → Int) (a b : Nat) : Prop := ∀ i : Nat, i < 24 → z24 (G i) ∧ ∀ j : Nat, zb (G i) j = (decide (j < 24) && (yv_lk s D i j && yv_pr a b (min i j) (max i j)))
/-- rows of lines -/
def yv_il (s : Int) (D : Nat → Nat → Bool) (G : Int → Int) : Prop := ∀ i : Nat, i < 24 → z24 (G i) ∧ ∀ j : Nat, zb (G i) j = (decide (j < 24) && yv_lk s D i j)
theorem yv_il_eq {s : Int} {D : Nat → Nat → Bool} {G H : Int → Int} (a : yv_il s D G) (b : yv_il s D H) : ∀ i : Int, 0 ≤ i → i < 24 → G i = H i := fun i i0 i1 => by
  obtain ⟨a1, a2⟩ := a i.toNat (by omega)
  obtain ⟨b1, b2⟩ := b i.toNat (by omega)
  rw [show ((i.toNat : Nat) : Int) = i by omega] at a1 a2 b1 b2
  exact z24_ext a1 b1 fun j _ => by rw [a2, b2]
section YVJ
variable {s : Int} {D : Nat → Nat → Bool} {G : Int → Int} {a b : Nat}
theorem yv_pr_s {p q : Nat} (h : ¬ (p = a ∧ q = b)) : yv_pr a (b + 1) p q = yv_pr a b p q := by
  unfold yv_pr
  by_cases e : p < a ∨ (p = a ∧ q < b)
  · rw [decide_eq_true e, decide_eq_true (by omega)]
  · rw [decide_eq_false e, decide_eq_false (by omega)]
theorem yv_jn_yes (h : yv_jn s D G a b) (ab : a < b) (hb : b < 24) (ha : zb s a = true) (hsb : zb s b = true) (hd : D a b = true) : yv_jn s D (zv_up (zv_up G a (zi_or (G a) (zi_shl 1 b))) b (zi_or (zv_up G a (zi_or (G a) (zi_shl 1 b)) b) (zi_shl 1 a))) a (b + 1) := by
  intro i hi
  obtain ⟨h1, h2⟩ := h i hi
  by_cases eb : i = b
  · subst eb
    rw [zv_up_s, zv_up_n (show ((i : Nat) : Int) ≠ (a : Int) by omega)]
    refine ⟨z24_or h1 (z24_shl (by omega) (by omega)), fun j => ?_⟩
    rw [zb_or, zb_shl (by omega) (by omega), h2]
    by_cases ej : j = a
    · subst ej
      rw [show ((j : Nat) : Int).toNat = j by omega, decide_eq_true rfl, Bool.or_true, decide_eq_true (by omega : j < 24)]
      unfold yv_lk yv_pr
      rw [show min i j = j by omega, show max i j = i by omega, hd, ha, hsb, decide_eq_true (by omega : i ≠ j), decide_eq_true (by omega : j < j ∨ (j = j ∧ i < i + 1))]
      rfl
    · rw [decide_eq_false (show ¬ j = ((a : Nat) : Int).toNat by omega), Bool.or_false, yv_pr_s (by omega)]
  · rw [zv_up_n (show ((i : Nat) : Int) ≠ (b : Int) by omega)]
    by_cases ea : i = a
    · subst ea
      rw [zv_up_s]
      refine ⟨z24_or h1 (z24_shl (by omega) (by omega)), fun j => ?_⟩
      rw [zb_or, zb_shl (by omega) (by omega), h2]
      by_cases ej : j = b
      · subst ej
        rw [show ((j : Nat) : Int).toNat = j by omega, decide_eq_true rfl, Bool.or_true, decide_eq_true (by omega : j < 24)]
        unfold yv_lk yv_pr
        rw [show min i j = i by omega, show max i j = j by omega, hd, ha, hsb, decide_eq_true (by omega : i ≠ j), decide_eq_true (by omega : i < i ∨ (i = i ∧ j < j + 1))]
        rfl
      · rw [decide_eq_false (show ¬ j = ((b : Nat) : Int).toNat by omega), Bool.or_false, yv_pr_s (by omega)]
    · rw [zv_up_n (show ((i : Nat) : Int) ≠ (a : Int) by omega)]
      exact ⟨h1, fun j => by rw [h2, yv_pr_s (by omega)]⟩
theorem yv_jn_no (h : yv_jn s D G a b) (ab : a < b) (hn : ¬ (zb s a = true ∧ zb s b = true ∧ D a b = true)) : yv_jn s D G a (b + 1) := by
  intro i hi
  obtain ⟨h1, h2⟩ := h i hi
  refine ⟨h1, fun j => ?_⟩
  rw [h2]
  by_cases e : min i j = a ∧ max i j = b
  · have hk : yv_lk s D i j = false := by
      apply Bool.eq_false_iff.mpr
      intro hk
      unfold yv_lk at hk
      rw [Bool.and_eq_true, Bool.and_eq_true, Bool.and_eq_true, e.1, e.2] at hk
      apply hn
      obtain ⟨⟨k1, k2, k3⟩, k4⟩ := hk
      by_cases hij : i < j
      · have ei : i = a := by omega
        have ej : j = b := by omega
        rw [← ei, ← ej]
        rw [← ei, ← ej] at k4
        exact ⟨k2, k3, k4⟩
      · have ei : i = b := by omega
        have ej : j = a := by omega
        rw [← ei, ← ej]
        rw [← ei, ← ej] at k4
        exact ⟨k3, k2, k4⟩
    rw [hk, Bool.false_and, Bool.false_and]
  · rw [yv_pr_s e]
theorem yv_jn_end (h : yv_jn s D G a b) (hb : 24 ≤ b) : yv_jn s D G (a + 1) (a + 2) := by
  intro i hi
  obtain ⟨h1, h2⟩ := h i hi
  refine ⟨h1, fun j => ?_⟩
  rw [h2]
  by_cases hj : j < 24
  · by_cases e : i = j
    · have hk : yv_lk s D i j = false := by
        unfold yv_lk
        rw [decide_eq_false (fun hh => hh e), Bool.false_and, Bool.false_and]
      rw [hk, Bool.false_and, Bool.false_and]
    · congr 2
      unfold yv_pr
      by_cases q : min i j < a ∨ (min i j = a ∧ max i j < b)
      · rw [decide_eq_true q, decide_eq_true (by omega)]
      · rw [decide_eq_false q, decide_eq_false (by omega)]
  · rw [decide_eq_false hj, Bool.false_and, Bool.false_and]
theorem yv_jn_un (h : yv_jn s D G a b) (ha : ¬ zb s a = true) : yv_jn s D G a 24 := by
  intro i hi
  obtain ⟨h1, h2⟩ := h i hi
  refine ⟨h1, fun j => ?_⟩
  rw [h2]
  by_cases e : min i j = a
  · have hk : yv_lk s D i j = false := by
      apply Bool.eq_false_iff.mpr
      intro hk
      unfold yv_lk at hk
      rw [Bool.and_eq_true, Bool.and_eq_true, Bool.and_eq_true] at hk
      obtain ⟨⟨k1, k2, k3⟩, -⟩ := hk
      apply ha
      by_cases hij : i < j
      · rw [show a = i by omega]; exact k2
      · rw [show a = j by omega]; exact k3
    rw [hk, Bool.false_and, Bool.false_and]
  · congr 2
    unfold yv_pr
    by_cases q : min i j < a
    · rw [decide_eq_true (Or.inl q), decide_eq_true (Or.inl q)]
    · rw [decide_eq_false (by omega), decide_eq_false (by omega)]
theorem yv_jn_il (h : yv_jn s D G a b) (ha : 24 ≤ a) : yv_il s D G := by
  intro i hi
  obtain ⟨h1, h2⟩ := h i hi
  refine ⟨h1, fun j => ?_⟩
  rw [h2]
  by_cases hj : j < 24
  · have : yv_pr a b (min i j) (max i j) = true := decide_eq_true (Or.inl (by omega))
    rw [this, Bool.and_true]
  · rw [decide_eq_false hj, Bool.false_and, Bool.false_and]
theorem yv_jn_0 (h : ∀ i : Nat, i < 24 → G i = 0) : yv_jn s D G 0 1 := by
  intro i hi
  rw [h i hi]
  refine ⟨z24_0, fun j => ?_⟩
  rw [zb_0]
  symm
  by_cases e : i = j
  · have hk : yv_lk s D i j = false := by
      unfold yv_lk
      rw [decide_eq_false (fun hh => hh e), Bool.false_and, Bool.false_and]
    rw [hk, Bool.false_and, Bool.and_false]
  · have : yv_pr 0 1 (min i j) (max i j) = false := decide_eq_false (by omega)
    rw [this, Bool.and_false, Bool.and_false]
end YVJ
def yv_D (L : zLW) (h u : Int) (co ro br : Int → Int) (x y : Int) (a b : Nat) : Bool := yv_dr L h u co ro br x y a b
theorem ze_fill24_l0 {v : Int} : ∀ (d : Nat) (j : Int) (g : Int → Int) (n : Nat), j + d = 24 → 0 ≤ j → d < n → ∃ g2, zf_Arrays_fill_24_l0 v 24 n j g = some g2 ∧ (∀ i, j ≤ i → i < 24 → g2 i = v) ∧ ∀ i, i < j → g2 i = g i := by
  intro d
  induction d with
  | zero =>
    intro j g n e j0 hn
    obtain ⟨n, rfl⟩ : ∃ q, n = q + 1 := ⟨n - 1, by omega⟩
    refine ⟨g, ?_, fun i a b => by omega, fun _ _ => rfl⟩
    show zf_Arrays_fill_24_l0_b v 24 (zf_Arrays_fill_24_l0 v 24 n) j g = _
    unfold zf_Arrays_fill_24_l0_b
    rw [if_neg (by omega)]
  | succ d ih =>
    intro j g n e j0 hn
    obtain ⟨n, rfl⟩ : ∃ q, n = q + 1 := ⟨n - 1, by omega⟩
    show ∃ g2, zf_Arrays_fill_24_l0_b v 24 (zf_Arrays_fill_24_l0 v 24 n) j g = some g2 ∧ _
    unfold zf_Arrays_fill_24_l0_b
    rw [if_pos (by omega), zl_ci j0 (by omega), zi_w_id (x := j + 1) (by omega) (by omega)]
    obtain ⟨g2, e2, a, b⟩ := ih (j + 1) (zv_up g j v) n (by omega) (by omega) (by omega)
    refine ⟨g2, e2, fun i i1 i2 => ?_, fun i i1 => ?_⟩
    · by_cases ei : i = j
      · subst ei; rw [b i (by omega), zv_up_s]
      · exact a i (by omega) i2
    · rw [b i (by omega), zv_up_n (by omega)]
theorem ze_fill24 {v : Int} {g : Int → Int} : ∃ g2, zf_Arrays_fill_24 v g = some g2 ∧ ∀ i, 0 ≤ i → i < 24 → g2 i = v := by
  obtain ⟨g2, e, a, -⟩ := ze_fill24_l0 (v := v) 24 0 g zi_fu rfl (by decide) (by decide)
  refine ⟨g2, ?_, a⟩
  unfold zf_Arrays_fill_24
  rw [e]; rfl
section YVX
variable {L : zLW} {K V kd fr hf to C mk mf mh mt : Int → Int} {nc tS tL sP lP mc : Int} {t h u cl sc sr ch x y s : Int} {co ro br wc wr m : Int → Int}
theorem yx_draw_l1 (R : yl_R L K V nc tS tL sP lP kd fr hf to mc C mk mf mh mt) (k : yk_sky t h u cl sc sr ch co ro br wc wr m) {a : Nat} (ha : a < 24) : ∀ (d b : Nat) (f : Int) (J g pa ph S : Int → Int) (n : Nat), 24 - b ≤ d → a < b → b ≤ 24 → d < n → yv_jn s (yv_D L h u co ro br x y) J a b → yv_bj h u x y g → yv_cp L lP h u co ro br pa ph →
    ∃ f' J' g' pa' ph' S', zf_View_draw_l1 (a : Int) h s nc lP br ro co kd hf to K V n (b : Int) f J g pa ph S = some (f', J', g', pa', ph', S') ∧ yv_jn s (yv_D L h u co ro br x y) J' a 24 ∧ yv_bj h u x y g' ∧ yv_cp L lP h u co ro br pa' ph' := by
  intro d
  induction d with
  | zero =>
    intro b f J g pa ph S n hd hab hb hn hj hg hc
    obtain ⟨n, rfl⟩ : ∃ q, n = q + 1 := ⟨n - 1, by omega⟩
    refine ⟨f, J, g, pa, ph, S, ?_, ?_, hg, hc⟩
    · show zf_View_draw_l1_b (a : Int) h s nc lP br ro co kd hf to K V (zf_View_draw_l1 (a : Int) h s nc lP br ro co kd hf to K V n) (b : Int) f J g pa ph S = _
      unfold zf_View_draw_l1_b
      rw [if_neg (by omega)]
    · rw [show (24 : Nat) = b by omega]; exact hj
  | succ d ih =>
    intro b f J g pa ph S n hd hab hb hn hj hg hc
    obtain ⟨n, rfl⟩ : ∃ q, n = q + 1 := ⟨n - 1, by omega⟩
    show ∃ f' J' g' pa' ph' S', zf_View_draw_l1_b (a : Int) h s nc lP br ro co kd hf to K V (zf_View_draw_l1 (a : Int) h s nc lP br ro co kd hf to K V n) (b : Int) f J g pa ph S = _ ∧ _
    unfold zf_View_draw_l1_b
    by_cases hb2 : b < 24
    · rw [if_pos (by omega), zi_w_id (x := (b : Int) + 1) (by omega) (by omega)]
      have ea : ((a : Nat) : Int).toNat = a := by omega
      have eb : ((b : Nat) : Int).toNat = b := by omega
      by_cases hsa : zb s a = true
      · rw [zb_bit1 (by omega) (by omega) (by rw [ea]; exact hsa), if_neg (show ¬ (1 : Int) = 0 by decide)]
        by_cases hsb : zb s b = true
        · rw [zb_bit1 (by omega) (by omega) (by rw [eb]; exact hsb), if_neg (show ¬ (1 : Int) = 0 by decide)]
          obtain ⟨-, ⟨⟨h1, h2⟩, -⟩, -, -, -, -, -, ki⟩ := id k
          obtain ⟨f', pa', ph', g', S', e1, hg', hc'⟩ := yx_isDrawn (f4 := f) (S := S) R h1 h2 (show 0 ≤ (a : Int) by omega) (by omega) (show 0 ≤ (b : Int) by omega) (by omega) (fun i i0 i1 => ⟨(ki i i0 i1).1.1, (ki i i0 i1).1.2.1⟩) hg hc
          rw [e1, zl_b]
          by_cases hd2 : yv_dr L h u co ro br x y a b = true
          · rw [if_pos hd2, if_neg (show ¬ (1 : Int) = 0 by decide), zl_ci (by omega) (by omega), zl_ci (by omega) (by omega)]
            exact ih (b + 1) f' _ g' pa' ph' S' n (by omega) (by omega) (by omega) (by omega) (yv_jn_yes hj hab hb2 hsa hsb hd2) hg' hc'
          · rw [if_neg hd2, if_pos rfl]
            exact ih (b + 1) f' J g' pa' ph' S' n (by omega) (by omega) (by omega) (by omega) (yv_jn_no hj hab (fun q => hd2 q.2.2)) hg' hc'
        · rw [zb_bit0 (by omega) (by omega) (by rw [eb]; exact hsb), if_pos rfl]
          exact ih (b + 1) f J g pa ph S n (by omega) (by omega) (by omega) (by omega) (yv_jn_no hj hab (fun q => hsb q.2.1)) hg hc
      · rw [zb_bit0 (by omega) (by omega) (by rw [ea]; exact hsa), if_pos rfl]
        exact ⟨f, J, g, pa, ph, S, rfl, yv_jn_un hj hsa, hg, hc⟩
    · rw [if_neg (by omega)]
      refine ⟨f, J, g, pa, ph, S, rfl, ?_, hg, hc⟩
      rw [show (24 : Nat) = b by omega]; exact hj
theorem yx_draw_l0 (R : yl_R L K V nc tS tL sP lP kd fr hf to mc C mk mf mh mt) (k : yk_sky t h u cl sc sr ch co ro br wc wr m) : ∀ (d a : Nat) (f : Int) (J g pa ph S : Int → Int) (n : Nat), a + d = 24 → d < n → yv_jn s (yv_D L h u co ro br x y) J a (a + 1) → yv_bj h u x y g → yv_cp L lP h u co ro br pa ph →
    ∃ f' J' g' pa' ph' S', zf_View_draw_l0 h s nc lP br ro co kd hf to K V n (a : Int) f J g pa ph S = some (f', J', g', pa', ph', S') ∧ yv_il s (yv_D L h u co ro br x y) J' ∧ yv_cp L lP h u co ro br pa' ph' := by
  intro d
  induction d with
  | zero =>
    intro a f J g pa ph S n e hn hj hg hc
    obtain ⟨n, rfl⟩ : ∃ q, n = q + 1 := ⟨n - 1, by omega⟩
    refine ⟨f, J, g, pa, ph, S, ?_, yv_jn_il hj (by omega), hc⟩
    show zf_View_draw_l0_b h s nc lP br ro co kd hf to K V (zf_View_draw_l0 h s nc lP br ro co kd hf to K V n) (a : Int) f J g pa ph S = _
    unfold zf_View_draw_l0_b
    rw [if_neg (by omega)]
  | succ d ih =>
    intro a f J g pa ph S n e hn hj hg hc
    obtain ⟨n, rfl⟩ : ∃ q, n = q + 1 := ⟨n - 1, by omega⟩
    obtain ⟨f', J', g', pa', ph', S', e1, hj', hg', hc'⟩ := yx_draw_l1 (s := s) (x := x) (y := y) R k (show a < 24 by omega) 24 (a + 1) f J g pa ph S zi_fu (by omega) (by omega) (by omega) (by decide) hj hg hc
    show ∃ f' J' g' pa' ph' S', zf_View_draw_l0_b h s nc lP br ro co kd hf to K V (zf_View_draw_l0 h s nc lP br ro co kd hf to K V n) (a : Int) f J g pa ph S = _ ∧ _
    unfold zf_View_draw_l0_b
    rw [if_pos (by omega), zi_w_id (x := (a : Int) + 1) (by omega) (by omega)]
    show ∃ f' J' g' pa' ph' S', ((zf_View_draw_l1 (a : Int) h s nc lP br ro co kd hf to K V zi_fu ((a + 1 : Nat) : Int) f J g pa ph S).bind _) = _ ∧ _
    rw [e1, zl_b]
    exact ih (a + 1) f' J' g' pa' ph' S' n (by omega) (by omega) (yv_jn_end hj' (by decide)) hg' hc'
theorem yv_nol (R : yl_R L K V nc tS tL sP lP kd fr hf to mc C mk mf mh mt) (h0 : tL = 0) {a b : Nat} : yv_D L h u co ro br x y a b = false := by
  obtain ⟨⟨r1, r2, r3, r4⟩, r5, st, r6, r7, ⟨⟨-, t2⟩, -⟩, r9⟩ := R
  rcases t2 with ⟨q, _⟩ | ⟨_, q⟩
  · omega
  · exact yl_any_0 q (by omega)
theorem yx_draw (R : yl_R L K V nc tS tL sP lP kd fr hf to mc C mk mf mh mt) (k : yk_sky t h u cl sc sr ch co ro br wc wr m) {f : Int} {J g pa ph S : Int → Int} (hc : yv_cp L lP h u co ro br pa ph) :
    ∃ f' J' g' pa' ph' S', zf_View_draw tL x y h u s nc f lP J g pa ph br ro co kd hf to K S V = some (x, y, f', J', g', pa', ph', S') ∧ yv_il s (yv_D L h u co ro br x y) J' ∧ yv_cp L lP h u co ro br pa' ph' := by
  obtain ⟨J0, e0, hJ0⟩ := ze_fill24 (v := 0) (g := J)
  unfold zf_View_draw
  rw [e0, zl_b]
  by_cases h0 : tL = 0
  · rw [if_pos h0]
    refine ⟨f, J0, g, pa, ph, S, rfl, fun i hi => ?_, hc⟩
    rw [hJ0 i (by omega) (by omega)]
    refine ⟨z24_0, fun j => ?_⟩
    unfold yv_lk
    rw [zb_0, yv_nol R h0, Bool.and_false, Bool.and_false]
  · rw [if_neg h0]
    obtain ⟨g1, eg, hg⟩ := ze_goTo (x := x) (y := y) (f0 := x) (f1 := y) (h := h) (u := u) (g := g)
    rw [eg, zl_b]
    obtain ⟨f', J', g', pa', ph', S', e1, e2, e3⟩ := yx_draw_l0 (s := s) R k 24 0 f J0 g1 pa ph S zi_fu rfl (by decide) (yv_jn_0 fun i hi => hJ0 i (by omega) (by omega)) ⟨hg.1, hg.2.1, hg.2.2.2.2.2.2.1, hg.2.2.2.2.2.2.2⟩ hc
    refine ⟨f', J', g', pa', ph', S', ?_, e2, e3⟩
    show ((zf_View_draw_l0 h s nc lP br ro co kd hf to K V zi_fu 0 f J0 g1 pa ph S).bind _) = _
    rw [show zf_View_draw_l0 h s nc lP br ro co kd hf to K V zi_fu 0 f J0 g1 pa ph S = _ from e1, zl_b]
theorem ym_looks_l0 : ∀ (d : Nat) (j : Int) (g : Int → Int) (n : Nat), j + d = 24 → 0 ≤ j → d < n → ∃ g2, zf_M_looks_l0 n j g = some g2 ∧ (∀ i, j ≤ i → i < 24 → g2 i = 0) ∧ ∀ i, i < j → g2 i = g i := by
  intro d
  induction d with
  | zero =>
    intro j g n e j0 hn
    obtain ⟨n, rfl⟩ : ∃ q, n = q + 1 := ⟨n - 1, by omega⟩
    refine ⟨g, ?_, fun i a b => by omega, fun _ _ => rfl⟩
    show zf_M_looks_l0_b (zf_M_looks_l0 n) j g = _
    unfold zf_M_looks_l0_b
    rw [if_neg (by omega)]
  | succ d ih =>
    intro j g n e j0 hn
    obtain ⟨n, rfl⟩ : ∃ q, n = q + 1 := ⟨n - 1, by omega⟩
    show ∃ g2, zf_M_looks_l0_b (zf_M_looks_l0 n) j g = some g2 ∧ _
    unfold zf_M_looks_l0_b
    rw [if_pos (by omega), zl_ci j0 (by omega), zi_w_id (x := j + 1) (by omega) (by omega)]
    obtain ⟨g2, e2, a, b⟩ := ih (j + 1) (zv_up g j 0) n (by omega) (by omega) (by omega)
    refine ⟨g2, e2, fun i i1 i2 => ?_, fun i i1 => ?_⟩
    · by_cases ei : i = j
      · subst ei; rw [b i (by omega), zv_up_s]
      · exact a i (by omega) i2
    · rw [b i (by omega), zv_up_n (by omega)]
theorem ym_looks_l2 (R : yl_R L K V nc tS tL sP lP kd fr hf to mc C mk mf mh mt) (k : yk_sky t h u cl sc sr ch co ro br wc wr m) (hs : z24 s) (hst : ∀ j : Nat, zb s j = true → zb t j = true) (x1 : 0 ≤ x) (x2 : x ≤ 23) (y1 : 0 ≤ y) (y2 : y ≤ 11) {a : Nat} (ha : a < 24) : ∀ (d b : Nat) (g S J : Int → Int) (n : Nat), 24 - b ≤ d → a < b → b ≤ 24 → d < n → yv_jn s (yv_D L h u co ro br x y) J a b →
    ∃ g' S' J', zf_M_looks_l2 (24 * y + x) (a : Int) mc s m mk mh mt C n (b : Int) g S J = some (g', S', J') ∧ yv_jn s (yv_D L h u co ro br x y) J' a 24 := by
  intro d
  induction d with
  | zero =>
    intro b g S J n hd hab hb hn hj
    obtain ⟨n, rfl⟩ : ∃ q, n = q + 1 := ⟨n - 1, by omega⟩
    refine ⟨g, S, J, ?_, ?_⟩
    · show zf_M_looks_l2_b (24 * y + x) (a : Int) mc s m mk mh mt C (zf_M_looks_l2 (24 * y + x) (a : Int) mc s m mk mh mt C n) (b : Int) g S J = _
      unfold zf_M_looks_l2_b
      rw [if_neg (by omega)]
    · rw [show (24 : Nat) = b by omega]; exact hj
  | succ d ih =>
    intro b g S J n hd hab hb hn hj
    obtain ⟨n, rfl⟩ : ∃ q, n = q + 1 := ⟨n - 1, by omega⟩
    have sin : 0 ≤ s ∧ s ≤ 2147483647 := ⟨hs.1, by have := hs.2; omega⟩
    show ∃ g' S' J', zf_M_looks_l2_b (24 * y + x) (a : Int) mc s m mk mh mt C (zf_M_looks_l2 (24 * y + x) (a : Int) mc s m mk mh mt C n) (b : Int) g S J = _ ∧ _
    unfold zf_M_looks_l2_b
    by_cases hb2 : b < 24
    · have ea : ((a : Nat) : Int).toNat = a := by omega
      have eb : ((b : Nat) : Int).toNat = b := by omega
      rw [if_pos (by omega), zi_w_id (x := (b : Int) + 1) (by omega) (by omega), ze_M_has sin.1 sin.2 (show 0 ≤ (a : Int) by omega) (by omega), zl_b, zb_tb2 sin.1 sin.2, ea]
      by_cases hsa : zb s a = true
      · rw [if_pos hsa, if_neg (show ¬ (1 : Int) = 0 by decide), ze_M_has sin.1 sin.2 (show 0 ≤ (b : Int) by omega) (by omega), zl_b, zb_tb2 sin.1 sin.2, eb]
        by_cases hsb : zb s b = true
        · rw [if_pos hsb, if_neg (show ¬ (1 : Int) = 0 by decide)]
          obtain ⟨g', S', e1⟩ := ym_isDrawn (g := g) (S := S) R k (show 0 ≤ (a : Int) by omega) (by omega) (show 0 ≤ (b : Int) by omega) (by omega) (by rw [ea]; exact hst a hsa) (by rw [eb]; exact hst b hsb) x1 x2 y1 y2
          rw [e1, zl_b]
          by_cases hd2 : yv_dr L h u co ro br x y a b = true
          · rw [if_pos hd2, if_neg (show ¬ (1 : Int) = 0 by decide), zl_ci (by omega) (by omega), zl_ci (by omega) (by omega)]
            exact ih (b + 1) g' S' _ n (by omega) (by omega) (by omega) (by omega) (yv_jn_yes hj hab hb2 hsa hsb hd2)
          · rw [if_neg hd2, if_pos rfl]
            exact ih (b + 1) g' S' J n (by omega) (by omega) (by omega) (by omega) (yv_jn_no hj hab (fun q => hd2 q.2.2))
        · rw [if_neg hsb, if_pos rfl]
          exact ih (b + 1) g S J n (by omega) (by omega) (by omega) (by omega) (yv_jn_no hj hab (fun q => hsb q.2.1))
      · rw [if_neg hsa, if_pos rfl]
        exact ⟨g, S, J, rfl, yv_jn_un hj hsa⟩
    · rw [if_neg (by omega)]
      refine ⟨g, S, J, rfl, ?_⟩
      rw [show (24 : Nat) = b by omega]; exact hj
theorem ym_looks_l1 (R : yl_R L K V nc tS tL sP lP kd fr hf to mc C mk mf mh mt) (k : yk_sky t h u cl sc sr ch co ro br wc wr m) (hs : z24 s) (hst : ∀ j : Nat, zb s j = true → zb t j = true) (x1 : 0 ≤ x) (x2 : x ≤ 23) (y1 : 0 ≤ y) (y2 : y ≤ 11) : ∀ (d a : Nat) (g S J : Int → Int) (n : Nat), a + d = 24 → d < n → yv_jn s (yv_D L h u co ro br x y) J a (a + 1) →
    ∃ g' S' J', zf_M_looks_l1 (24 * y + x) mc s m mk mh mt C n (a : Int) g S J = some (g', S', J') ∧ yv_il s (yv_D L h u co ro br x y) J' := by
  intro d
  induction d with
  | zero =>
    intro a g S J n e hn hj
    obtain ⟨n, rfl⟩ : ∃ q, n = q + 1 := ⟨n - 1, by omega⟩
    refine ⟨g, S, J, ?_, yv_jn_il hj (by omega)⟩
    show zf_M_looks_l1_b (24 * y + x) mc s m mk mh mt C (zf_M_looks_l1 (24 * y + x) mc s m mk mh mt C n) (a : Int) g S J = _
    unfold zf_M_looks_l1_b
    rw [if_neg (by omega)]
  | succ d ih =>
    intro a g S J n e hn hj
    obtain ⟨n, rfl⟩ : ∃ q, n = q + 1 := ⟨n - 1, by omega⟩
    obtain ⟨g', S', J', e1, hj'⟩ := ym_looks_l2 R k hs hst x1 x2 y1 y2 (show a < 24 by omega) 24 (a + 1) g S J zi_fu (by omega) (by omega) (by omega) (by decide) hj
    show ∃ g' S' J', zf_M_looks_l1_b (24 * y + x) mc s m mk mh mt C (zf_M_looks_l1 (24 * y + x) mc s m mk mh mt C n) (a : Int) g S J = _ ∧ _
    unfold zf_M_looks_l1_b
    rw [if_pos (by omega), zi_w_id (x := (a : Int) + 1) (by omega) (by omega)]
    show ∃ g' S' J', ((zf_M_looks_l2 (24 * y + x) (a : Int) mc s m mk mh mt C zi_fu ((a + 1 : Nat) : Int) g S J).bind _) = _ ∧ _
    rw [e1, zl_b]
    exact ih (a + 1) g' S' J' n (by omega) (by omega) (yv_jn_end hj' (by decide))
theorem ym_looks (R : yl_R L K V nc tS tL sP lP kd fr hf to mc C mk mf mh mt) (k : yk_sky t h u cl sc sr ch co ro br wc wr m) (x1 : 0 ≤ x) (x2 : x ≤ 23) (y1 : 0 ≤ y) (y2 : y ≤ 11) {f1 : Int} {g S J : Int → Int} :
    ∃ s' g' S' J', zf_M_looks (24 * y + x) mc f1 m mk g mh mt C S J = some (s', g', S', J') ∧ yv_is L tS t h u cl sc sr co ro br x y s' ∧ yv_il s' (yv_D L h u co ro br x y) J' := by
  obtain ⟨s', g', S', e1, e2⟩ := ym_seenFrom (g := g) (S := S) R k x1 x2 y1 y2
  obtain ⟨J0, e0, hJ0, -⟩ := ym_looks_l0 24 0 J zi_fu rfl (by decide) (by decide)
  obtain ⟨g2, S2, J2, e3, e4⟩ := ym_looks_l1 R k e2.1 (fun j hj => by
    rw [e2.2 j, Bool.and_eq_true, Bool.and_eq_true] at hj
    exact hj.2.1) x1 x2 y1 y2 24 0 g' S' J0 zi_fu rfl (by decide) (yv_jn_0 fun i hi => hJ0 i (by omega) (by omega))
  refine ⟨s', g2, S2, J2, ?_, e2, e4⟩
  unfold zf_M_looks
  rw [e1, zl_b, e0, zl_b, show zf_M_looks_l1 (24 * y + x) mc s' m mk mh mt C zi_fu 0 g' S' J0 = _ from e3, zl_b]
end YVX
end
section
/-! Hours and nights that pass, clouds that are drawn: alike on both sides. -/
def yg_cl (v : Int) : Int := if v < 0 then 0 else if 11 < v then 11 else v
theorem ze_floorMod {a : Int} (h1 : -40 ≤ a) (h2 : a < 88) : zf_Math_floorMod a 24 = some (a % 24) := by
  have h : ∀ k : Nat, k < 128 → zf_Math_floorMod ((k : Int) - 40) 24 = some (((k : Int) - 40) % 24) := by decide +kernel
  have := h (a + 40).toNat (by omega)
  rwa [show (((a + 40).toNat : Nat) : Int) - 40 = a by omega] at this
theorem ze_begin_l0 {wc wr : Int → Int} (hw : ∀ i, 0 ≤ i → i < 24 → (-3 ≤ wc i ∧ wc i ≤ 3) ∧ (-3 ≤ wr i ∧ wr i ≤ 3)) : ∀ (d : Nat) (i : Int) (co ro : Int → Int) (n : Nat), i + d = 24 → 0 ≤ i → d < n → (∀ j, 0 ≤ j → j < 24 → (0 ≤ co j ∧ co j ≤ 23) ∧ (0 ≤ ro j ∧ ro j ≤ 11)) →
    ∃ co' ro', zf_Sky_beginNight_l0 wc wr n i co ro = some (co', ro') ∧ (∀ j, i ≤ j → j < 24 → co' j = (co j + wc j) % 24 ∧ ro' j = yg_cl (ro j + wr j)) ∧ ∀ j, j < i → co' j = co j ∧ ro' j = ro j := by
  intro d
  induction d with
  | zero =>
    intro i co ro n e i0 hn hr
    obtain ⟨n, rfl⟩ : ∃ q, n = q + 1 := ⟨n - 1, by omega⟩
    refine ⟨co, ro, ?_, fun j a b => by omega, fun _ _ => ⟨rfl, rfl⟩⟩
    show zf_Sky_beginNight_l0_b wc wr (zf_Sky_beginNight_l0 wc wr n) i co ro = _
    unfold zf_Sky_beginNight_l0_b
    rw [if_neg (by omega)]
  | succ d ih =>
    intro i co ro n e i0 hn hr
    obtain ⟨n, rfl⟩ : ∃ q, n = q + 1 := ⟨n - 1, by omega⟩
    obtain ⟨⟨c1, c2⟩, ⟨r1, r2⟩⟩ := hr i i0 (by omega)
    obtain ⟨⟨w1, w2⟩, ⟨w3, w4⟩⟩ := hw i i0 (by omega)
    show ∃ co' ro', zf_Sky_beginNight_l0_b wc wr (zf_Sky_beginNight_l0 wc wr n) i co ro = _ ∧ _
    unfold zf_Sky_beginNight_l0_b zf_Sky_columnNextNight zf_Sky_rowNextNight
    rw [if_pos (by omega), zl_ci i0 (by omega), zl_ci i0 (by omega), zi_w_id (x := co i + wc i) (by omega) (by omega), ze_floorMod (by omega) (by omega), zl_b, zl_b, zl_ci i0 (by omega), zi_w_id (x := ro i + wr i) (by omega) (by omega), ze_Math_min, zl_b, ze_Math_max, zl_b, zl_b, zi_w_id (x := i + 1) (by omega) (by omega)]
    have ecl : (if 0 < (if ro i + wr i < 11 then ro i + wr i else 11) then (if ro i + wr i < 11 then ro i + wr i else 11) else 0) = yg_cl (ro i + wr i) := by
      unfold yg_cl
      (repeat' split) <;> omega
    have hcl : 0 ≤ yg_cl (ro i + wr i) ∧ yg_cl (ro i + wr i) ≤ 11 := by
      unfold yg_cl
      (repeat' split) <;> omega
    rw [ecl]
    obtain ⟨co', ro', e1, e2, e3⟩ := ih (i + 1) (zv_up co i ((co i + wc i) % 24)) (zv_up ro i (yg_cl (ro i + wr i))) n (by omega) (by omega) (by omega) (fun j j0 j1 => by
      by_cases ej : j = i
      · subst ej
        rw [zv_up_s, zv_up_s]
        exact ⟨⟨by omega, by omega⟩, hcl⟩
      · rw [zv_up_n ej, zv_up_n ej]
        exact hr j j0 j1)
    refine ⟨co', ro', e1, fun j j0 j1 => ?_, fun j j0 => ?_⟩
    · by_cases ej : j = i
      · subst ej
        obtain ⟨a1, a2⟩ := e3 j (by omega)
        rw [a1, a2, zv_up_s, zv_up_s]
        exact ⟨rfl, rfl⟩
      · have := e2 j (by omega) j1
        rw [zv_up_n ej, zv_up_n ej] at this
        exact this
    · obtain ⟨a1, a2⟩ := e3 j (by omega)
      rw [a1, a2, zv_up_n (by omega), zv_up_n (by omega)]
      exact ⟨rfl, rfl⟩
theorem ze_walks_l0 {t : Int} (ht : z24 t) : ∀ (d : Nat) (i : Int) (m : Int → Int) (n : Nat), i + d = 24 → 0 ≤ i → d < n → m 126 = t → (∀ j, 0 ≤ j → j < 24 → (0 ≤ m j ∧ m j ≤ 23) ∧ (0 ≤ m (24 + j) ∧ m (24 + j) ≤ 11) ∧ (-3 ≤ m (72 + j) ∧ m (72 + j) ≤ 3) ∧ (-3 ≤ m (96 + j) ∧ m (96 + j) ≤ 3)) →
    ∃ m', zf_M_walks_l0 n i m = some m' ∧ (∀ j, 48 ≤ j → m' j = m j) ∧ (∀ j, j < i → 0 ≤ j → m' j = m j ∧ m' (24 + j) = m (24 + j)) ∧ ∀ j, i ≤ j → j < 24 → (zb t j.toNat = true → m' j = (m j + m (72 + j)) % 24 ∧ m' (24 + j) = yg_cl (m (24 + j) + m (96 + j))) ∧ (¬ zb t j.toNat = true → m' j = m j ∧ m' (24 + j) = m (24 + j)) := by
  have tin : 0 ≤ t ∧ t ≤ 2147483647 := ⟨ht.1, by have := ht.2; omega⟩
  intro d
  induction d with
  | zero =>
    intro i m n e i0 hn h126 hr
    obtain ⟨n, rfl⟩ : ∃ q, n = q + 1 := ⟨n - 1, by omega⟩
    refine ⟨m, ?_, fun _ _ => rfl, fun _ _ _ => ⟨rfl, rfl⟩, fun j a b => by omega⟩
    show zf_M_walks_l0_b (zf_M_walks_l0 n) i m = _
    unfold zf_M_walks_l0_b
    rw [if_neg (by omega)]
  | succ d ih =>
    intro i m n e i0 hn h126 hr
    obtain ⟨n, rfl⟩ : ∃ q, n = q + 1 := ⟨n - 1, by omega⟩
    obtain ⟨⟨c1, c2⟩, ⟨r1, r2⟩, ⟨w1, w2⟩, ⟨w3, w4⟩⟩ := hr i i0 (by omega)
    show ∃ m', zf_M_walks_l0_b (zf_M_walks_l0 n) i m = _ ∧ _
    unfold zf_M_walks_l0_b
    rw [if_pos (by omega), ze_M_isTold (by rw [h126]; exact tin.1) (by rw [h126]; exact tin.2), zl_b, h126, zi_w_id (x := i + 1) (by omega) (by omega)]
    by_cases hti : zb t i.toNat = true
    · rw [zs_has1 tin.1 tin.2 i0 (by omega) hti, if_neg (show ¬ (1 : Int) = 0 by decide), zi_w_id (x := 0 + i) (by omega) (by omega), zi_w_id (x := 72 + i) (by omega) (by omega), zi_w_id (x := 24 + i) (by omega) (by omega), zi_w_id (x := 96 + i) (by omega) (by omega), Int.zero_add, zl_ci (by omega) (by omega), zl_ci (by omega) (by omega), zl_ci (by omega) (by omega), zl_ci (by omega) (by omega)]
      rw [zv_up_n (show 24 + i ≠ i by omega), zv_up_n (show 96 + i ≠ i by omega), zi_w_id (x := m i + m (72 + i)) (by omega) (by omega), zi_w_id (x := m i + m (72 + i) + 24) (by omega) (by omega), zi_rem_eq (by omega) (by omega) (by decide) (by decide), zi_w_id (x := m (24 + i) + m (96 + i)) (by omega) (by omega)]
      have eh : zf_M_held (m (24 + i) + m (96 + i)) 11 = some (yg_cl (m (24 + i) + m (96 + i))) := by
        unfold zf_M_held yg_cl
        (repeat' split) <;> rfl
      have hcl : 0 ≤ yg_cl (m (24 + i) + m (96 + i)) ∧ yg_cl (m (24 + i) + m (96 + i)) ≤ 11 := by
        unfold yg_cl
        (repeat' split) <;> omega
      rw [eh, zl_b]
      obtain ⟨m', e1, e2, e3, e4⟩ := ih (i + 1) (zv_up (zv_up m i ((m i + m (72 + i) + 24) % 24)) (24 + i) (yg_cl (m (24 + i) + m (96 + i)))) n (by omega) (by omega) (by omega) (by rw [zv_up_n (by omega), zv_up_n (by omega)]; exact h126) (fun j j0 j1 => by
        have hj := hr j j0 j1
        rw [zv_up_n (show 72 + j ≠ 24 + i by omega), zv_up_n (show 72 + j ≠ i by omega), zv_up_n (show 96 + j ≠ 24 + i by omega), zv_up_n (show 96 + j ≠ i by omega), zv_up_n (show j ≠ 24 + i by omega)]
        by_cases ej : j = i
        · subst ej
          rw [zv_up_s, zv_up_s]
          exact ⟨⟨by omega, by omega⟩, hcl, hj.2.2⟩
        · rw [zv_up_n ej, zv_up_n (show 24 + j ≠ 24 + i by omega), zv_up_n (show 24 + j ≠ i by omega)]
          exact hj)
      refine ⟨m', e1, fun j hj => ?_, fun j j1 j0 => ?_, fun j j0 j1 => ?_⟩
      · rw [e2 j hj, zv_up_n (by omega), zv_up_n (by omega)]
      · obtain ⟨a1, a2⟩ := e3 j (by omega) j0
        rw [a1, a2, zv_up_n (show j ≠ 24 + i by omega), zv_up_n (show j ≠ i by omega), zv_up_n (show 24 + j ≠ 24 + i by omega), zv_up_n (show 24 + j ≠ i by omega)]
        exact ⟨rfl, rfl⟩
      · by_cases ej : j = i
        · subst ej
          obtain ⟨a1, a2⟩ := e3 j (by omega) (by omega)
          rw [a1, a2, zv_up_n (show j ≠ 24 + j by omega), zv_up_s, zv_up_s]
          exact ⟨fun _ => ⟨by omega, rfl⟩, fun hn => absurd hti hn⟩
        · have := e4 j (by omega) j1
          rw [zv_up_n (show j ≠ 24 + i by omega), zv_up_n ej, zv_up_n (show 72 + j ≠ 24 + i by omega), zv_up_n (show 72 + j ≠ i by omega), zv_up_n (show 24 + j ≠ 24 + i by omega), zv_up_n (show 24 + j ≠ i by omega), zv_up_n (show 96 + j ≠ 24 + i by omega), zv_up_n (show 96 + j ≠ i by omega)] at this
          exact this
    · rw [zs_has0 tin.1 tin.2 hti, if_pos rfl]
      obtain ⟨m', e1, e2, e3, e4⟩ := ih (i + 1) m n (by omega) (by omega) (by omega) h126 hr
      refine ⟨m', e1, e2, fun j j1 j0 => e3 j (by omega) j0, fun j j0 j1 => ?_⟩
      by_cases ej : j = i
      · subst ej
        exact ⟨fun hh => absurd hh hti, fun _ => e3 j (by omega) (by omega)⟩
      · exact e4 j (by omega) j1
section YKT
variable {t h u cl sc sr ch : Int} {co ro br wc wr m : Int → Int}
theorem yk_walks (k : yk_sky t h u cl sc sr ch co ro br wc wr m) : ∃ co' ro' m', zf_Sky_beginNight_l0 wc wr zi_fu 0 co ro = some (co', ro') ∧ zf_M_walks m = some m' ∧ (∀ j, 48 ≤ j → m' j = m j) ∧ yk_sky t h u cl sc sr ch co' ro' br wc wr m' ∧ (∀ i, 0 ≤ i → i < 24 → co' i = (co i + wc i) % 24 ∧ ro' i = yg_cl (ro i + wr i)) := by
  obtain ⟨⟨ht, k126⟩, hk2, k129, hk4, hk5, hk6, hk7, ki⟩ := k
  obtain ⟨co', ro', e1, e2, -⟩ := ze_begin_l0 (wc := wc) (wr := wr) (fun i i0 i1 => ⟨(ki i i0 i1).1.2.2.2.1, (ki i i0 i1).1.2.2.2.2⟩) 24 0 co ro zi_fu (by decide) (by decide) (by decide) (fun i i0 i1 => ⟨(ki i i0 i1).1.1, (ki i i0 i1).1.2.1⟩)
  obtain ⟨m', f1, f2, -, f4⟩ := ze_walks_l0 ht 24 0 m zi_fu (by decide) (by decide) (by decide) k126 (fun i i0 i1 => ⟨(ki i i0 i1).2.1.1, (ki i i0 i1).2.1.2.1, (ki i i0 i1).2.1.2.2.2.1, (ki i i0 i1).2.1.2.2.2.2⟩)
  refine ⟨co', ro', m', e1, by unfold zf_M_walks; rw [f1]; rfl, f2, ⟨⟨ht, by rw [f2 _ (by decide)]; exact k126⟩, ⟨hk2.1, by rw [f2 _ (by decide)]; exact hk2.2⟩, by rw [f2 _ (by decide)]; exact k129, ⟨hk4.1, by rw [f2 _ (by decide)]; exact hk4.2⟩, ⟨hk5.1, by rw [f2 _ (by decide)]; exact hk5.2⟩, ⟨hk6.1, by rw [f2 _ (by decide)]; exact hk6.2⟩, ⟨hk7.1, by rw [f2 _ (by decide)]; exact hk7.2⟩, fun i i0 i1 => ?_⟩, fun i i0 i1 => e2 i i0 i1⟩
  obtain ⟨⟨a1, a2, a3, a4, a5⟩, ⟨b1, b2, b3, b4, b5⟩, c⟩ := ki i i0 i1
  obtain ⟨x1, x2⟩ := e2 i i0 i1
  obtain ⟨y1, y2⟩ := f4 i i0 i1
  have hcl : ∀ v, 0 ≤ yg_cl v ∧ yg_cl v ≤ 11 := fun v => by
    unfold yg_cl
    (repeat' split) <;> omega
  rw [f2 (48 + i) (by omega), f2 (72 + i) (by omega), f2 (96 + i) (by omega), x1, x2]
  refine ⟨⟨⟨by omega, by omega⟩, hcl _, a3, a4, a5⟩, ⟨?_, ?_, b3, b4, b5⟩, fun hb => ?_⟩
  · by_cases hb : zb t i.toNat = true
    · rw [(y1 hb).1]; exact ⟨by omega, by omega⟩
    · rw [(y2 hb).1]; exact b1
  · by_cases hb : zb t i.toNat = true
    · rw [(y1 hb).2]; exact hcl _
    · rw [(y2 hb).2]; exact b2
  · obtain ⟨c1, c2, c3, c4, c5⟩ := c hb
    obtain ⟨z1, z2⟩ := y1 hb
    rw [z1, z2, c1, c2, c4, c5]
    exact ⟨rfl, rfl, c3, rfl, rfl⟩
/-- another hour -/
theorem yk_hour (k : yk_sky t h u cl sc sr ch co ro br wc wr m) {h2 u2 : Int} (a1 : 0 ≤ h2) (a2 : h2 ≤ 23) {m2 : Int → Int} (e1 : m2 128 = h2) (e2 : m2 129 = u2) (e : ∀ j, j ≠ 128 → j ≠ 129 → m2 j = m j) : yk_sky t h2 u2 cl sc sr ch co ro br wc wr m2 := by
  obtain ⟨⟨ht, k126⟩, hk2, k129, hk4, hk5, hk6, hk7, ki⟩ := k
  refine ⟨⟨ht, by rw [e _ (by decide) (by decide)]; exact k126⟩, ⟨⟨a1, a2⟩, e1⟩, e2, ⟨hk4.1, by rw [e _ (by decide) (by decide)]; exact hk4.2⟩, ⟨hk5.1, by rw [e _ (by decide) (by decide)]; exact hk5.2⟩, ⟨hk6.1, by rw [e _ (by decide) (by decide)]; exact hk6.2⟩, ⟨hk7.1, by rw [e _ (by decide) (by decide)]; exact hk7.2⟩, fun i i0 i1 => ?_⟩
  rw [e i (by omega) (by omega), e (24 + i) (by omega) (by omega), e (48 + i) (by omega) (by omega), e (72 + i) (by omega) (by omega), e (96 + i) (by omega) (by omega)]
  exact ki i i0 i1
theorem yk_pass (k : yk_sky t h u cl sc sr ch co ro br wc wr m) : ∃ h' u' co' ro' m', zf_Sky_passHour h u co wc ro wr = some (h', u', co', ro') ∧ zf_M_passes m = some m' ∧ yk_sky t h' u' cl sc sr ch co' ro' br wc wr m' ∧ ∀ j, 48 ≤ j → j ≠ 128 → j ≠ 129 → m' j = m j := by
  obtain ⟨-, ⟨⟨h1, h2⟩, k128⟩, k129, -⟩ := id k
  unfold zf_Sky_passHour zf_M_passes
  rw [k128, zi_w_id (x := h + 1) (by omega) (by omega), zv_up_s]
  by_cases e : h + 1 = 24
  · rw [if_pos e, if_neg (by omega)]
    have k2 := yk_hour (h2 := 0) (u2 := zi_w (u + 1)) (m2 := zv_up (zv_up (zv_up m 128 (h + 1)) 128 0) 129 (zi_w (u + 1))) k (by decide) (by decide) (by rw [zv_up_n (by decide), zv_up_s]) zv_up_s (fun j j1 j2 => by rw [zv_up_n j2, zv_up_n j1, zv_up_n j1])
    obtain ⟨co', ro', m', e1, e2, e3, e4, -⟩ := yk_walks k2
    refine ⟨0, zi_w (u + 1), co', ro', m', ?_, ?_, e4, fun j j0 j1 j2 => ?_⟩
    · unfold zf_Sky_beginNight
      rw [e1]; rfl
    · rw [zv_up_n (show (129 : Int) ≠ 128 by decide), zv_up_n (show (129 : Int) ≠ 128 by decide), k129, e2]; rfl
    · rw [e3 j j0, zv_up_n j2, zv_up_n j1, zv_up_n j1]
  · rw [if_neg e, if_pos (by omega)]
    refine ⟨h + 1, u, co, ro, _, rfl, rfl, yk_hour k (by omega) (by omega) zv_up_s (by rw [zv_up_n (by decide)]; exact k129) (fun j j1 _ => zv_up_n j1), fun j _ j1 _ => zv_up_n j1⟩
/-- nights that pass without hours -/
theorem yk_night (k : yk_sky t h u cl sc sr ch co ro br wc wr m) : ∃ co' ro' m', zf_Sky_beginNight u co wc ro wr = some (zi_w (u + 1), co', ro') ∧ zf_M_walks (zv_up m 129 (zi_w (m 129 + 1))) = some m' ∧ yk_sky t h (zi_w (u + 1)) cl sc sr ch co' ro' br wc wr m' ∧ ∀ j, 48 ≤ j → j ≠ 129 → m' j = m j := by
  obtain ⟨-, ⟨⟨h1, h2⟩, k128⟩, k129, -⟩ := id k
  have k2 := yk_hour (h2 := h) (u2 := zi_w (u + 1)) (m2 := zv_up m 129 (zi_w (m 129 + 1))) k h1 h2 (by rw [zv_up_n (by decide)]; exact k128) (by rw [zv_up_s, k129]) (fun j j1 j2 => zv_up_n j2)
  obtain ⟨co', ro', m', e1, e2, e3, e4, -⟩ := yk_walks k2
  refine ⟨co', ro', m', ?_, e2, e4, fun j j0 j2 => ?_⟩
  · unfold zf_Sky_beginNight
    rw [e1]; rfl
  · rw [e3 j j0, zv_up_n j2]
end YKT
end
section
/-! Clouds that are drawn, alike on both sides. -/
def yv_lq (h u c : Int) : Int → Int := fun j => if j = 0 then h else if j = 1 then u else if j = 5 then c else 0
def yg_lot (c : Int) : Int := (25173 * c + 13849) % 65536
theorem ze_lot {c : Int} (h1 : 0 ≤ c) (h2 : c ≤ 65535) : zi_rem (zi_w ((zi_w (25173 * c)) + 13849)) 65536 = yg_lot c ∧ 0 ≤ yg_lot c ∧ yg_lot c ≤ 65535 := by
  refine ⟨?_, ?_, ?_⟩
  · rw [zi_w_id (x := 25173 * c) (by omega) (by omega), zi_w_id (x := 25173 * c + 13849) (by omega) (by omega), zi_rem_eq (by omega) (by omega) (by decide) (by decide)]
    rfl
  · unfold yg_lot; omega
  · unfold yg_lot; omega
section YKC
variable {L : zLW} {K V kd fr hf to C mk mf mh mt : Int → Int} {nc tS tL sP lP mc : Int} {t h u cl sc sr ch : Int} {co ro br wc wr m : Int → Int}
theorem yk_cl2 (k : yk_sky t h u cl sc sr ch co ro br wc wr m) {c2 h2 : Int} (a1 : z24 c2) (b1 : 0 ≤ h2) (b2 : h2 ≤ 65535) {m2 : Int → Int} (e1 : m2 130 = c2) (e2 : m2 133 = h2) (e : ∀ j, j ≠ 130 → j ≠ 133 → m2 j = m j) : yk_sky t h u c2 sc sr h2 co ro br wc wr m2 := by
  obtain ⟨⟨ht, k126⟩, hk2, k129, hk4, hk5, hk6, hk7, ki⟩ := k
  refine ⟨⟨ht, by rw [e _ (by decide) (by decide)]; exact k126⟩, ⟨hk2.1, by rw [e _ (by decide) (by decide)]; exact hk2.2⟩, by rw [e _ (by decide) (by decide)]; exact k129, ⟨a1, e1⟩, ⟨hk5.1, by rw [e _ (by decide) (by decide)]; exact hk5.2⟩, ⟨hk6.1, by rw [e _ (by decide) (by decide)]; exact hk6.2⟩, ⟨⟨b1, b2⟩, e2⟩, fun i i0 i1 => ?_⟩
  rw [e i (by omega) (by omega), e (24 + i) (by omega) (by omega), e (48 + i) (by omega) (by omega), e (72 + i) (by omega) (by omega), e (96 + i) (by omega) (by omega)]
  exact ki i i0 i1
theorem yk_draw_l (R : yl_R L K V nc tS tL sP lP kd fr hf to mc C mk mf mh mt) (m0 : Int → Int) : ∀ (d : Nat) (i s c f : Int) (g S m g2 S2 : Int → Int) (n n2 : Nat), i + d = 24 → 0 ≤ i → d < n → d < n2 → z24 s → 0 ≤ c → c ≤ 65535 → (∀ j, 0 ≤ j → j < 13 → j ≠ 5 → g j = yv_lq h u 0 j) → m 130 = s → m 133 = c → m 128 = h → m 129 = u → (∀ j, j ≠ 130 → j ≠ 133 → m j = m0 j) →
    ∃ s' c' f' g' S' m' g2' S2', zf_Sky_drawClouds_l0 nc kd hf to K V fr n s i c f g S = some (s', c', f', g', S') ∧ zf_M_drawsClouds_l0 mc mk mh mt C mf n2 i m g2 S2 = some (m', g2', S2') ∧ z24 s' ∧ (0 ≤ c' ∧ c' ≤ 65535) ∧ m' 130 = s' ∧ m' 133 = c' ∧ ∀ j, j ≠ 130 → j ≠ 133 → m' j = m0 j := by
  intro d
  induction d with
  | zero =>
    intro i s c f g S m g2 S2 n n2 e i0 hn hn2 hs c1 c2 hg e1 e2 e3 e4 e5
    obtain ⟨n, rfl⟩ : ∃ q, n = q + 1 := ⟨n - 1, by omega⟩
    obtain ⟨n2, rfl⟩ : ∃ q, n2 = q + 1 := ⟨n2 - 1, by omega⟩
    refine ⟨s, c, f, g, S, m, g2, S2, ?_, ?_, hs, ⟨c1, c2⟩, e1, e2, e5⟩
    · show zf_Sky_drawClouds_l0_b nc kd hf to K V fr (zf_Sky_drawClouds_l0 nc kd hf to K V fr n) s i c f g S = _
      unfold zf_Sky_drawClouds_l0_b
      rw [if_neg (by omega)]
    · show zf_M_drawsClouds_l0_b mc mk mh mt C mf (zf_M_drawsClouds_l0 mc mk mh mt C mf n2) i m g2 S2 = _
      unfold zf_M_drawsClouds_l0_b
      rw [if_neg (by omega)]
  | succ d ih =>
    intro i s c f g S m g2 S2 n n2 e i0 hn hn2 hs c1 c2 hg e1 e2 e3 e4 e5
    obtain ⟨n, rfl⟩ : ∃ q, n = q + 1 := ⟨n - 1, by omega⟩
    obtain ⟨n2, rfl⟩ : ∃ q, n2 = q + 1 := ⟨n2 - 1, by omega⟩
    obtain ⟨l1, l2, l3⟩ := ze_lot c1 c2
    obtain ⟨f', S', ea⟩ := yl_amtX (lt := zv_up g 5 i) R (k := 113) (high := 10) (f1 := f) (S := S) (Or.inr (Or.inr rfl)) (by decide)
    obtain ⟨gf, eg, w0, w1, w2⟩ := ze_M_feels (g := g2) (m := zv_up m 133 (yg_lot c))
    obtain ⟨S2', eb⟩ := yl_amtM (lt := zv_up gf 5 i) R (k := 113) (high := 10) (S := S2) (Or.inr (Or.inr rfl)) (by decide)
    have elt : yl_amt L 113 10 (zv_up gf 5 i) = yl_amt L 113 10 (zv_up g 5 i) := by
      refine yl_amt_c R (Or.inr (Or.inr rfl)) fun j j0 j1 => ?_
      by_cases ej : j = 5
      · rw [ej, zv_up_s, zv_up_s]
      · rw [zv_up_n ej, zv_up_n ej, hg j j0 j1 ej]
        unfold yv_lq
        by_cases j00 : j = 0
        · rw [if_pos j00, j00, w0, zv_up_n (by decide)]; exact e3
        · rw [if_neg j00]
          by_cases j11 : j = 1
          · rw [if_pos j11, j11, w1, zv_up_n (by decide)]; exact e4
          · rw [if_neg j11, if_neg ej]; exact w2 j (by omega) j1
    show ∃ s' c' f' g' S' m' g2' S2', zf_Sky_drawClouds_l0_b nc kd hf to K V fr (zf_Sky_drawClouds_l0 nc kd hf to K V fr n) s i c f g S = _ ∧ zf_M_drawsClouds_l0_b mc mk mh mt C mf (zf_M_drawsClouds_l0 mc mk mh mt C mf n2) i m g2 S2 = _ ∧ _
    unfold zf_Sky_drawClouds_l0_b zf_M_drawsClouds_l0_b
    rw [if_pos (show i < 24 by omega), if_pos (show i < 24 by omega), e2, l1, ea, zl_b, eg, zl_b, eb, zl_b, elt, zv_up_s, zi_w_id (x := i + 1) (by omega) (by omega)]
    have hg' : ∀ j, 0 ≤ j → j < 13 → j ≠ 5 → zv_up g 5 i j = yv_lq h u 0 j := fun j j0 j1 j5 => by rw [zv_up_n j5]; exact hg j j0 j1 j5
    by_cases hq : zi_rem (yg_lot c) 10 < yl_amt L 113 10 (zv_up g 5 i)
    · rw [if_pos hq, if_pos hq, zv_up_n (show (130 : Int) ≠ 133 by decide), e1]
      exact ih (i + 1) _ _ f' _ S' _ _ S2' n n2 (by omega) (by omega) (by omega) (by omega) (z24_or hs (z24_shl i0 (by omega))) l2 l3 hg' zv_up_s (by rw [zv_up_n (by decide), zv_up_s]) (by rw [zv_up_n (by decide), zv_up_n (by decide)]; exact e3) (by rw [zv_up_n (by decide), zv_up_n (by decide)]; exact e4) (fun j j1 j2 => by rw [zv_up_n j1, zv_up_n j2]; exact e5 j j1 j2)
    · rw [if_neg hq, if_neg hq]
      exact ih (i + 1) s _ f' _ S' _ _ S2' n n2 (by omega) (by omega) (by omega) (by omega) hs l2 l3 hg' (by rw [zv_up_n (by decide)]; exact e1) zv_up_s (by rw [zv_up_n (by decide)]; exact e3) (by rw [zv_up_n (by decide)]; exact e4) (fun j j1 j2 => by rw [zv_up_n j2]; exact e5 j j1 j2)
theorem yk_drawn (R : yl_R L K V nc tS tL sP lP kd fr hf to mc C mk mf mh mt) (k : yk_sky t h u cl sc sr ch co ro br wc wr m) {f : Int} {g S g2 S2 : Int → Int} :
    ∃ ch' cl' f' g' S' m' g2' S2', zf_Sky_drawClouds h u ch nc f cl g kd hf to K S V fr = some (ch', f', cl', g', S') ∧ zf_M_drawsClouds mc m g2 mk mh mt C S2 mf = some (m', g2', S2') ∧ yk_sky t h u cl' sc sr ch' co ro br wc wr m' ∧ ∀ j, j ≠ 130 → j ≠ 133 → m' j = m j := by
  obtain ⟨-, ⟨⟨h1, h2⟩, k128⟩, k129, -, -, -, ⟨⟨q1, q2⟩, k133⟩, -⟩ := id k
  obtain ⟨g1, eg, hg⟩ := ze_forget (g := g)
  obtain ⟨s', c', f', g', S', m', g2', S2', e1, e2, e3, e4, e5, e6, e7⟩ := yk_draw_l (h := h) (u := u) R m 24 0 0 ch f (zv_up (zv_up g1 0 h) 1 u) S (zv_up m 130 0) g2 S2 zi_fu zi_fu (by decide) (by decide) (by decide) (by decide) z24_0 q1 q2 (fun j j0 j1 j5 => by
    unfold yv_lq
    by_cases e1 : j = 1
    · subst e1; rfl
    by_cases e0 : j = 0
    · subst e0; rfl
    rw [zv_up_n e1, zv_up_n e0, if_neg e0, if_neg e1, if_neg j5]
    exact hg j j0 j1) zv_up_s (by rw [zv_up_n (by decide)]; exact k133) (by rw [zv_up_n (by decide)]; exact k128) (by rw [zv_up_n (by decide)]; exact k129) (fun j j1 _ => zv_up_n j1)
  refine ⟨c', s', f', g', S', m', g2', S2', ?_, ?_, yk_cl2 k e3 e4.1 e4.2 e5 e6 e7, e7⟩
  · unfold zf_Sky_drawClouds zf_Law_setTime
    rw [eg, zl_b, zl_b, e1]
    rfl
  · unfold zf_M_drawsClouds
    rw [e2]
    rfl
end YKC
end
