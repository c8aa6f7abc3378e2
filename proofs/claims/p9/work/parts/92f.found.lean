/-! found, meeting: alike on both sides; alike, known: both sides answer. -/
section YFM
variable {t h u cl sc sr ch ts : Int} {co ro br wc wr m gp gl : Int → Int} {T M : Int → Int}
theorem ze_colNext {i : Int} (i0 : 0 ≤ i) (i1 : i < 24) (c0 : 0 ≤ co i) (c1 : co i ≤ 23) (w0 : -3 ≤ wc i) (w1 : wc i ≤ 3) : zf_Sky_columnNextNight i co wc = some ((co i + wc i) % 24) := by
  unfold zf_Sky_columnNextNight
  rw [zl_ci i0 (by omega)]
  first
    | rw [zi_w_id (x := co i + wc i) (by omega) (by omega), ze_floorMod (by omega) (by omega)]; rfl
    | rw [zl_ci i0 (by omega), zi_w_id (x := co i + wc i) (by omega) (by omega), ze_floorMod (by omega) (by omega)]; rfl
theorem ze_rowNext {i : Int} (i0 : 0 ≤ i) (i1 : i < 24) (c0 : 0 ≤ ro i) (c1 : ro i ≤ 11) (w0 : -3 ≤ wr i) (w1 : wr i ≤ 3) : zf_Sky_rowNextNight i ro wr = some (yg_cl (ro i + wr i)) := by
  unfold zf_Sky_rowNextNight yg_cl
  first
    | rw [zl_ci i0 (by omega), zi_w_id (x := ro i + wr i) (by omega) (by omega), ze_Math_min, zl_b, ze_Math_max, zl_b]
    | rw [zl_ci i0 (by omega), zl_ci i0 (by omega), zi_w_id (x := ro i + wr i) (by omega) (by omega), ze_Math_min, zl_b, ze_Math_max, zl_b]
  congr 1
  (repeat' split) <;> omega
theorem yo_found_l (k : yk_sky t h u cl sc sr ch co ro br wc wr m) (hT : yk_T T M) {m2 co2 ro2 : Int → Int} (k2 : yk_sky t h u cl sc sr ch co2 ro2 br wc wr m2) (e : ∀ i, 0 ≤ i → i < 24 → co2 i = (co i + wc i) % 24 ∧ ro2 i = yg_cl (ro i + wr i)) : ∀ (d : Nat) (i s a : Int) (n n2 : Nat), i + d = 24 → 0 ≤ i → d < n → d < n2 → 0 ≤ a → a ≤ 2 * i →
    ∃ r, zf_X_found_l0 t T co wc ro wr n s a i = some r ∧ zf_M_found_l0 m2 M n2 s a i = some r := by
  obtain ⟨⟨ht, k126⟩, -, -, -, -, -, -, ki⟩ := id k
  obtain ⟨⟨-, j126⟩, -, -, -, -, -, -, kj⟩ := id k2
  have tin : 0 ≤ t ∧ t ≤ 2147483647 := ⟨ht.1, by have := ht.2; omega⟩
  intro d
  induction d with
  | zero =>
    intro i s a n n2 e0 i0 hn hn2 a0 a1
    obtain ⟨n, rfl⟩ : ∃ q, n = q + 1 := ⟨n - 1, by omega⟩
    obtain ⟨n2, rfl⟩ : ∃ q, n2 = q + 1 := ⟨n2 - 1, by omega⟩
    refine ⟨s, ?_, ?_⟩
    · show zf_X_found_l0_b t T co wc ro wr (zf_X_found_l0 t T co wc ro wr n) s a i = _
      unfold zf_X_found_l0_b
      rw [if_neg (by omega)]
    · show zf_M_found_l0_b m2 M (zf_M_found_l0 m2 M n2) s a i = _
      unfold zf_M_found_l0_b
      rw [if_neg (by omega)]
  | succ d ih =>
    intro i s a n n2 e0 i0 hn hn2 a0 a1
    obtain ⟨n, rfl⟩ : ∃ q, n = q + 1 := ⟨n - 1, by omega⟩
    obtain ⟨n2, rfl⟩ : ∃ q, n2 = q + 1 := ⟨n2 - 1, by omega⟩
    have nx := fun s2 a2 (b0 : 0 ≤ a2) (b1 : a2 ≤ 2 * (i + 1)) => ih (i + 1) s2 a2 n n2 (by omega) (by omega) (by omega) (by omega) b0 b1
    show ∃ r, zf_X_found_l0_b t T co wc ro wr (zf_X_found_l0 t T co wc ro wr n) s a i = some r ∧ zf_M_found_l0_b m2 M (zf_M_found_l0 m2 M n2) s a i = some r
    unfold zf_X_found_l0_b zf_M_found_l0_b
    rw [if_pos (by omega), if_pos (by omega), ze_Sky_hasStar tin.1 tin.2, ze_M_isTold (by rw [j126]; exact tin.1) (by rw [j126]; exact tin.2), j126, zl_b, zl_b, zi_w_id (x := i + 1) (by omega) (by omega)]
    by_cases q : zs_has 24 t i = 0
    · rw [if_pos q, if_pos q]
      exact nx s a a0 (by omega)
    rw [if_neg q, if_neg q]
    have hti : zb t i.toNat = true := by
      by_cases hh : zb t i.toNat = true
      · exact hh
      · exact absurd (zs_has0 tin.1 tin.2 hh) q
    obtain ⟨⟨⟨c1, c2⟩, ⟨r1, r2⟩, -, ⟨w1, w2⟩, ⟨v1, v2⟩⟩, -, -⟩ := ki i i0 (by omega)
    obtain ⟨-, -, h3⟩ := kj i i0 (by omega)
    obtain ⟨h3, h4, -⟩ := h3 hti
    obtain ⟨e1, e2⟩ := e i i0 (by omega)
    obtain ⟨T1, -, -⟩ := hT a a0 (by omega)
    obtain ⟨T2, -, -⟩ := hT (a + 1) (by omega) (by omega)
    rw [ze_byteAt a0 (by omega), zl_b, ze_colNext i0 (by omega) c1 c2 w1 w2, zl_b, ze_rowNext i0 (by omega) r1 r2 v1 v2, zi_w_id (x := a + 1) (by omega) (by omega), zi_w_id (x := a + 2) (by omega) (by omega), ze_byteAt (j := a + 1) (by omega) (by omega), zl_b, zl_b, zi_w_id (x := 0 + i) (by omega) (by omega), zi_w_id (x := 24 + i) (by omega) (by omega), Int.zero_add, zl_ci a0 (by omega), zl_ci i0 (by omega), zl_ci (a := a + 1) (by omega) (by omega), zl_ci (a := 24 + i) (by omega) (by omega), T1, T2, h3, h4, e1, e2]
    by_cases x1 : T a = (co i + wc i) % 24
    · rw [if_pos x1, if_pos x1]
      by_cases x2 : T (a + 1) = yg_cl (ro i + wr i)
      · rw [if_pos x2, if_pos x2]
        exact nx s (a + 2) (by omega) (by omega)
      · rw [if_neg x2, if_neg x2]
        exact nx _ (a + 2) (by omega) (by omega)
    · rw [if_neg x1, if_neg x1]
      exact nx _ (a + 2) (by omega) (by omega)
theorem zs_sum_24 {t : Int} (ht : z24 t) : 0 ≤ zs_sum t 24 ∧ zs_sum t 24 ≤ 24 := by
  rw [yn_sum ht.1 (by have := ht.2; omega)]
  exact yn_in 24
theorem yo_found {n n2 : Int} {mA : Int → Int} (k : yk_sky t h u cl sc sr ch co ro br wc wr m) (p : yk_tape n n2 T M) : ∃ r n' n2' m' mA', zf_X_found t n T co wc ro wr = some (r, n') ∧ zf_M_found n2 m mA M = some (r, n2', m', mA') ∧ yk_tape n' n2' T M ∧ ∀ j, 0 ≤ j → j < 422 → m' j = m j := by
  obtain ⟨⟨ht, k126⟩, -⟩ := id k
  obtain ⟨rfl, n0, n1, hT⟩ := id p
  have hs := zs_sum_24 ht
  unfold zf_X_found zf_M_found
  rw [k126]
  by_cases q : t = 0
  · rw [if_pos q, if_pos q]
    exact ⟨_, _, _, _, _, rfl, rfl, p, fun _ _ _ => rfl⟩
  rw [if_neg q, if_neg q, ze_bitCount ht.1 (by have := ht.2; omega), ze_M_bits ht.1 (by have := ht.2; omega), zl_b, zl_b, zi_w_id (x := 2 * zs_sum t 24) (by omega) (by omega)]
  unfold zf_Tape_take
  by_cases c : n2 < 2 * zs_sum t 24
  · rw [if_pos c, zl_b, if_pos rfl, if_pos c]
    exact ⟨_, _, _, _, _, rfl, rfl, p, fun _ _ _ => rfl⟩
  rw [if_neg c, zl_b, if_neg (show ¬ (1 : Int) = 0 by decide), if_neg c]
  obtain ⟨mB, e4, hA⟩ := ze_begins (g0 := m) (g := mA)
  obtain ⟨co2, ro2, m2, -, e5, hm2, k2, e⟩ := yk_walks k
  obtain ⟨r, e6, e7⟩ := yo_found_l k hT k2 e 24 0 0 0 zi_fu zi_fu (by decide) (by decide) (by decide) (by decide) (by decide) (by decide)
  obtain ⟨mC, e8, hB⟩ := ze_again (g0 := mB) (g := m2)
  rw [e4, zl_b, e5, zl_b, e6, zl_b, e7, zl_b, e8, zl_b]
  exact ⟨_, _, _, _, _, rfl, rfl, ⟨rfl, by decide, by decide, hT⟩, fun j j0 j1 => by rw [hB j j0 j1, hA j j0 j1]⟩
theorem yo_meeting {a b w : Int} {h1 q1 h3 fA q2 fB : Int → Int} (z : yk_sea ts gp gl m) : ∃ r h1' q1' h3' fA' q2' fB', zf_X_meeting a b w ts gp h1 q1 gl h3 = some (r, h1', q1', h3') ∧ zf_M_meeting a b w m fA q2 fB = some (r, fA', q2', fB') := by
  obtain ⟨⟨t1, t2, e127, hs, -⟩, hb⟩ := id z
  unfold zf_X_meeting zf_M_meeting
  rw [ze_Sea_hasShip t1 (by omega), ze_M_isShip (by omega) (by omega), e127, zl_b, zl_b]
  by_cases x1 : zs_has 6 ts a = 0
  · rw [if_pos x1, if_pos x1]
    exact ⟨_, _, _, _, _, _, _, rfl, rfl⟩
  rw [if_neg x1, if_neg x1, ze_Sea_hasShip t1 (by omega), ze_M_isShip (by omega) (by omega), e127, zl_b, zl_b]
  by_cases x2 : zs_has 6 ts b = 0
  · rw [if_pos x2, if_pos x2]
    exact ⟨_, _, _, _, _, _, _, rfl, rfl⟩
  rw [if_neg x2, if_neg x2, ze_X_isWithin, ze_M_in, zl_b, zl_b]
  by_cases x3 : zs_in w 0 1 = 0
  · rw [if_pos x3, if_pos x3]
    exact ⟨_, _, _, _, _, _, _, rfl, rfl⟩
  rw [if_neg x3, if_neg x3]
  obtain ⟨w0, w1⟩ := zs_in_ne x3
  obtain ⟨a0, a1, -⟩ := zs_has_ne x1
  obtain ⟨b0, b1, -⟩ := zs_has_ne x2
  obtain ⟨p0, p1⟩ := hb a a0 a1
  obtain ⟨r0, r1⟩ := hb b b0 b1
  rw [zl_ci a0 (by omega), zl_ci b0 (by omega), zi_w_id (x := 120 + a) (by omega) (by omega), zi_w_id (x := 120 + b) (by omega) (by omega), zl_ci (a := 120 + a) (by omega) (by omega), hs a a0 a1]
  obtain ⟨t3, D, Q, E, P, e1, e2, d1⟩ := ym_spread z p0 p1 (g0 := h1) (g1 := q1) (h0 := fA) (h1 := q2)
  obtain ⟨t4, F, Q2, G, P2, e3, e4, d2⟩ := ym_spread z r0 r1 (g0 := h3) (g1 := Q) (h0 := fB) (h1 := P)
  have R1 := ym_R_of d1
  have R2 := ym_R_of d2
  obtain ⟨p', c', e5, e6, hh⟩ := ym_meet_l R1 R2 288 0 (-1) 0 zi_fu (by decide) (by decide) (by decide) (.inl ⟨rfl, rfl, fun i i0 i1 => by omega⟩)
  have eX : zf_Pilot_meetingPlace (gp a) (gp b) h1 q1 gl h3 = some (p', D, Q2, F) := by
    unfold zf_Pilot_meetingPlace
    rw [e1, zl_b, e3, zl_b, e5, zl_b]
  rw [eX, zl_b, e2, zl_b, zl_ci (a := 120 + b) (by omega) (by omega), hs b b0 b1, e4, zl_b, e6, zl_b]
  dsimp only
  rcases hh with ⟨rfl, rfl, hd⟩ | ⟨rfl, v0, v1, v2, v3⟩
  · rw [if_pos rfl, zl_ci (a := 0) (by decide) (by decide), ze_mm, zl_b]
    have : (if G 0 < E 0 then E 0 else G 0) = 1000000000 := by
      have s1 := R1 0 (by decide) (by decide)
      have s2 := R2 0 (by decide) (by decide)
      split <;> omega
    rw [this, if_neg (by decide)]
    exact ⟨_, _, _, _, _, _, _, rfl, rfl⟩
  · rw [if_neg (show ¬ p' = -1 by omega), zl_ci v0 (by omega), ze_mm, zl_b, ze_hoursTo v0 v1, zl_b]
    have s1 := R1 p' v0 v1
    have s2 := R2 p' v0 v1
    have : (if G p' < E p' then E p' else G p') = (if D p' < F p' then F p' else D p') ∧ (if D p' < F p' then F p' else D p') < 1000000000 := by
      constructor
      · split <;> split <;> omega
      · split <;> omega
    rw [this.1, if_pos this.2]
    by_cases x : w = 0
    · rw [if_pos x, if_neg (by omega)]
      exact ⟨_, _, _, _, _, _, _, rfl, rfl⟩
    · rw [if_neg x, if_pos (by omega)]
      exact ⟨_, _, _, _, _, _, _, rfl, rfl⟩
end YFM
