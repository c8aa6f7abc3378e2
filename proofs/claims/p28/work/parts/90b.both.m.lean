/-! 90b.both, 90c.log, 90d.spots, 90e.home, 91a.sail, 91b.spread, 91c.meet, 92a.total, 92b.ways, 92c.level, 92d.told, 92e.hides, 92f.found, 92g.patches, 92h.mpatch, 92i.sold, 92j.sold2, 92k.sold3, 92l.named, 92m.steers, 92n.fastest, 92o.bytwo, 92p.log, 92q.mlog -/
section
/-! looksBoth; home's small loops. -/
section YBO
variable {L : zLW} {K V kd fr hf to C mk mf mh mt : Int → Int} {nc tS tL sP lP mc : Int} {t h u cl sc sr ch : Int} {co ro br wc wr m : Int → Int}
theorem ym_both (R : yl_R L K V nc tS tL sP lP kd fr hf to mc C mk mf mh mt) (k : yk_sky t h u cl sc sr ch co ro br wc wr m) {p q f1 : Int} {g2 g6 g7 g8 : Int → Int} (p1 : 0 ≤ p) (p2 : p < 288) (q1 : 0 ≤ q) (q2 : q < 288) {s1 s2 : Int} {J1 J2 : Int → Int}
    (i1 : yv_is L tS t h u cl sc sr co ro br (p % 24) (p / 24) s1) (l1 : yv_il s1 (yv_D L h u co ro br (p % 24) (p / 24)) J1) (i2 : yv_is L tS t h u cl sc sr co ro br (q % 24) (q / 24) s2) (l2 : yv_il s2 (yv_D L h u co ro br (q % 24) (q / 24)) J2) :
    ∃ g2' g6' H g8', zf_M_looksBoth p q mc f1 m mk g2 mh mt C g6 g7 g8 = some (zi_and s1 s2, g2', g6', H, g8') ∧ ∀ i, 0 ≤ i → i < 24 → H i = zi_and (J1 i) (J2 i) := by
  obtain ⟨r1, a2, a6, A, e1, b1, c1⟩ := ym_looks (f1 := f1) (g := g2) (S := g6) (J := g7) (x := p % 24) (y := p / 24) R k (by omega) (by omega) (by omega) (by omega)
  rw [show 24 * (p / 24) + p % 24 = p by omega] at e1
  have es := yv_is_eq b1 i1
  subst es
  obtain ⟨r2, d2, d6, D, e2, b2, c2⟩ := ym_looks (f1 := r1) (g := a2) (S := a6) (J := A) (x := q % 24) (y := q / 24) R k (by omega) (by omega) (by omega) (by omega)
  rw [show 24 * (q / 24) + q % 24 = q by omega] at e2
  have es := yv_is_eq b2 i2
  subst es
  obtain ⟨B, e3, hB, -⟩ := yb_l0 (g1 := A) 24 0 g8 zi_fu (by decide) (by decide) (by decide)
  obtain ⟨H, e4, hH, -⟩ := yb_l1 (g1 := B) 24 0 D zi_fu (by decide) (by decide) (by decide)
  refine ⟨d2, d6, H, B, ?_, fun i i0 i1' => ?_⟩
  · unfold zf_M_looksBoth
    rw [e1, zl_b]
    dsimp only
    rw [e3, zl_b, e2, zl_b]
    dsimp only
    rw [e4, zl_b, zi_and_cm (a := r2)]
  · rw [hH i i0 i1', hB i i0 i1', yv_il_eq c1 l1 i i0 i1', yv_il_eq c2 l2 i i0 i1', zi_and_cm]
theorem yh_l0 {g1 : Int → Int} : ∀ (d : Nat) (j : Int) (g : Int → Int) (n : Nat), j + d = 24 → 0 ≤ j → d < n → ∃ g2, zf_M_home_l0 g1 n j g = some g2 ∧ (∀ i, j ≤ i → i < 24 → g2 i = g1 i) ∧ ∀ i, i < j → g2 i = g i := by
  intro d
  induction d with
  | zero =>
    intro j g n e _ hn
    obtain ⟨n, rfl⟩ : ∃ q, n = q + 1 := ⟨n - 1, by omega⟩
    refine ⟨g, ?_, fun i _ _ => by omega, fun _ _ => rfl⟩
    show zf_M_home_l0_b g1 (zf_M_home_l0 g1 n) j g = _
    unfold zf_M_home_l0_b
    rw [if_neg (by omega)]
  | succ d ih =>
    intro j g n e j0 hn
    obtain ⟨n, rfl⟩ : ∃ q, n = q + 1 := ⟨n - 1, by omega⟩
    obtain ⟨g2, e1, a, b⟩ := ih (j + 1) (zv_up g j (g1 j)) n (by omega) (by omega) (by omega)
    refine ⟨g2, ?_, fun i i1 i2 => ?_, fun i i1 => ?_⟩
    · show zf_M_home_l0_b g1 (zf_M_home_l0 g1 n) j g = _
      unfold zf_M_home_l0_b
      rw [if_pos (by omega), zl_ci j0 (by omega), zi_w_id (x := j + 1) (by omega) (by omega), e1]
    · by_cases q : i = j
      · subst q
        rw [b i (by omega), zv_up_s]
      · exact a i (by omega) i2
    · rw [b i (by omega), zv_up_n (by omega)]
theorem yh_l2 {G H : Int → Int} : ∀ (d : Nat) (j x : Int) (n : Nat), j + d = 24 → 0 ≤ j → d < n → (x = 0 ∨ x = 1) → (zf_M_home_l2 G H n x j = some 1 ∧ x = 1 ∧ ∀ i, j ≤ i → i < 24 → G i = H i) ∨ (zf_M_home_l2 G H n x j = some 0 ∧ (x = 0 ∨ ∃ i, j ≤ i ∧ i < 24 ∧ G i ≠ H i)) := by
  intro d
  induction d with
  | zero =>
    intro j x n e _ hn hx
    obtain ⟨n, rfl⟩ : ∃ q, n = q + 1 := ⟨n - 1, by omega⟩
    have : zf_M_home_l2 G H (n + 1) x j = some x := by
      show zf_M_home_l2_b G H (zf_M_home_l2 G H n) x j = _
      unfold zf_M_home_l2_b
      rw [if_neg (by omega)]
    rw [this]
    rcases hx with hx | hx
    · exact .inr ⟨by rw [hx], .inl hx⟩
    · exact .inl ⟨by rw [hx], hx, fun i _ _ => by omega⟩
  | succ d ih =>
    intro j x n e j0 hn hx
    obtain ⟨n, rfl⟩ : ∃ q, n = q + 1 := ⟨n - 1, by omega⟩
    show (zf_M_home_l2_b G H (zf_M_home_l2 G H n) x j = _ ∧ _) ∨ (zf_M_home_l2_b G H (zf_M_home_l2 G H n) x j = _ ∧ _)
    unfold zf_M_home_l2_b
    rw [if_pos (show j < 24 by omega), zi_w_id (x := j + 1) (by omega) (by omega)]
    by_cases c : x = 0
    · rw [if_pos c]
      rcases ih (j + 1) 0 n (by omega) (by omega) (by omega) (.inl rfl) with ⟨e1, w, _⟩ | ⟨e1, _⟩
      · exact absurd w (by decide)
      · exact .inr ⟨e1, .inl c⟩
    rw [if_neg c, zl_ci j0 (by omega)]
    by_cases q : G j = H j
    · rw [if_pos q]
      rcases ih (j + 1) 1 n (by omega) (by omega) (by omega) (.inr rfl) with ⟨e1, _, a⟩ | ⟨e1, w | ⟨i, i0, i1, a⟩⟩
      · refine .inl ⟨e1, by omega, fun i i0 i1 => ?_⟩
        by_cases z : i = j
        · subst z; exact q
        · exact a i (by omega) i1
      · exact absurd w (by decide)
      · exact .inr ⟨e1, .inr ⟨i, by omega, i1, a⟩⟩
    · rw [if_neg q]
      rcases ih (j + 1) 0 n (by omega) (by omega) (by omega) (.inl rfl) with ⟨e1, w, _⟩ | ⟨e1, _⟩
      · exact absurd w (by decide)
      · exact .inr ⟨e1, .inr ⟨j, Int.le_refl _, by omega, q⟩⟩
end YBO
end
section
/-! A log's bytes: alike on both sides. -/
section YLG
variable {T M : Int → Int} {n : Int}
theorem yl_bytes_l (hT : yk_T T M) (n2 : n ≤ 12) : ∀ (d : Nat) (j : Int) (A B : Int → Int) (f f2 : Nat), n - j ≤ d → 0 ≤ j → d < f → d < f2 → (∀ i, 0 ≤ i → i < j → A i = T (2 * i) ∧ B i = T (2 * i + 1)) →
    (∃ A' B', zf_X_isLogBytes_l0 n T f j = some (.inl ()) ∧ zf_M_takesLog_l0 n M f2 j A B = some (.inl (A', B')) ∧ ∀ i, 0 ≤ i → i < n → A' i = T (2 * i) ∧ B' i = T (2 * i + 1)) ∨ ∃ A' B', zf_X_isLogBytes_l0 n T f j = some (.inr 0) ∧ zf_M_takesLog_l0 n M f2 j A B = some (.inr (0, A', B')) := by
  intro d
  induction d with
  | zero =>
    intro j A B f f2 e j0 hf hf2 h
    obtain ⟨f, rfl⟩ : ∃ q, f = q + 1 := ⟨f - 1, by omega⟩
    obtain ⟨f2, rfl⟩ : ∃ q, f2 = q + 1 := ⟨f2 - 1, by omega⟩
    refine .inl ⟨A, B, ?_, ?_, fun i i0 i1 => h i i0 (by omega)⟩
    · show zf_X_isLogBytes_l0_b n T (zf_X_isLogBytes_l0 n T f) j = _
      unfold zf_X_isLogBytes_l0_b
      rw [if_neg (by omega)]
    · show zf_M_takesLog_l0_b n M (zf_M_takesLog_l0 n M f2) j A B = _
      unfold zf_M_takesLog_l0_b
      rw [if_neg (by omega)]
  | succ d ih =>
    intro j A B f f2 e j0 hf hf2 h
    obtain ⟨f, rfl⟩ : ∃ q, f = q + 1 := ⟨f - 1, by omega⟩
    obtain ⟨f2, rfl⟩ : ∃ q, f2 = q + 1 := ⟨f2 - 1, by omega⟩
    show (∃ A' B', zf_X_isLogBytes_l0_b n T (zf_X_isLogBytes_l0 n T f) j = _ ∧ zf_M_takesLog_l0_b n M (zf_M_takesLog_l0 n M f2) j A B = _ ∧ _) ∨ ∃ A' B', zf_X_isLogBytes_l0_b n T (zf_X_isLogBytes_l0 n T f) j = _ ∧ zf_M_takesLog_l0_b n M (zf_M_takesLog_l0 n M f2) j A B = _
    unfold zf_X_isLogBytes_l0_b zf_M_takesLog_l0_b
    by_cases q : ¬ j < n
    · rw [if_neg q, if_neg q]
      exact .inl ⟨A, B, rfl, rfl, fun i i0 i1 => h i i0 (by omega)⟩
    have q : j < n := by omega
    rw [if_pos q, if_pos q, zi_w_id (x := 2 * j) (by omega) (by omega), zi_w_id (x := 2 * j + 1) (by omega) (by omega), zi_w_id (x := n - 1) (by omega) (by omega), zi_w_id (x := j + 1) (by omega) (by omega), ze_byteAt (show 0 ≤ 2 * j by omega) (by omega), zl_b, zl_ci (show 0 ≤ 2 * j by omega) (by omega), zl_ci j0 (by omega), zl_ci (show 0 ≤ 2 * j + 1 by omega) (by omega), (hT (2 * j) (by omega) (by omega)).1, (hT (2 * j + 1) (by omega) (by omega)).1, zv_up_s, zv_up_s]
    by_cases c : 1 < T (2 * j)
    · rw [if_pos c, if_pos c]
      exact .inr ⟨_, _, rfl, rfl⟩
    rw [if_neg c, if_neg c]
    have h2 : ∀ i, 0 ≤ i → i < j + 1 → zv_up A j (T (2 * j)) i = T (2 * i) ∧ zv_up B j (T (2 * j + 1)) i = T (2 * i + 1) := fun i i0 i1 => by
      by_cases w : i = j
      · subst w; rw [zv_up_s, zv_up_s]; exact ⟨rfl, rfl⟩
      · rw [zv_up_n w, zv_up_n w]; exact h i i0 (by omega)
    have nx := ih (j + 1) _ _ f f2 (by omega) (by omega) (by omega) (by omega) h2
    by_cases g : j < n - 1
    · rw [if_pos g, if_pos (show j + 1 < n by omega), ze_byteAt (show 0 ≤ 2 * j + 1 by omega) (by omega), zl_b]
      by_cases w : 4 < T (2 * j + 1)
      · rw [if_pos w, if_pos w]
        exact .inr ⟨_, _, rfl, rfl⟩
      · rw [if_neg w, if_neg w]
        exact nx
    · rw [if_neg g, if_neg (show ¬ j + 1 < n by omega)]
      exact nx
theorem yl_bytes (hT : yk_T T M) (n1 : 0 ≤ n) (n2 : n ≤ 12) {A B : Int → Int} : (∃ A' B', zf_X_isLogBytes n T = some 1 ∧ zf_M_takesLog n A M B = some (1, A', B') ∧ ∀ i, 0 ≤ i → i < n → A' i = T (2 * i) ∧ B' i = T (2 * i + 1)) ∨ ∃ A' B', zf_X_isLogBytes n T = some 0 ∧ zf_M_takesLog n A M B = some (0, A', B') := by
  unfold zf_X_isLogBytes zf_M_takesLog
  rcases yl_bytes_l hT n2 12 0 A B zi_fu zi_fu (by omega) (by decide) (by decide) (by decide) (fun i _ _ => by omega) with ⟨A', B', e1, e2, h⟩ | ⟨A', B', e1, e2⟩
  · rw [e1, e2, zl_b, zl_b]
    exact .inl ⟨A', B', rfl, rfl, h⟩
  · rw [e1, e2, zl_b, zl_b]
    exact .inr ⟨A', B', rfl, rfl⟩
end YLG
end
section
/-! The places of a log: laid and counted alike. -/
section YSP
variable {ts : Int} {gp gl m : Int → Int}
theorem yp_lay_l (z : yk_sea ts gp gl m) : ∀ (d : Nat) (j : Int) (A B : Int → Int) (n : Nat), j + d = 288 → 0 ≤ j → d < n →
    ∃ A' B', zf_X_log_l0 gl n j A = some A' ∧ zf_M_log_l0 m n j B = some B' ∧ (∀ i, j ≤ i → i < 288 → A' i = (if yg_ld gl i = true then -1 else i) ∧ B' i = (if yg_ld gl i = true then -1 else i)) ∧ ∀ i, i < j → A' i = A i ∧ B' i = B i := by
  intro d
  induction d with
  | zero =>
    intro j A B n e j0 hn
    obtain ⟨n, rfl⟩ : ∃ q, n = q + 1 := ⟨n - 1, by omega⟩
    refine ⟨A, B, ?_, ?_, fun i _ _ => by omega, fun i _ => ⟨rfl, rfl⟩⟩
    · show zf_X_log_l0_b gl (zf_X_log_l0 gl n) j A = _
      unfold zf_X_log_l0_b
      rw [if_neg (by omega)]
    · show zf_M_log_l0_b m (zf_M_log_l0 m n) j B = _
      unfold zf_M_log_l0_b
      rw [if_neg (by omega)]
  | succ d ih =>
    intro j A B n e j0 hn
    obtain ⟨n, rfl⟩ : ∃ q, n = q + 1 := ⟨n - 1, by omega⟩
    obtain ⟨v, hv⟩ : ∃ v : Int, v = if yg_ld gl j = true then -1 else j := ⟨_, rfl⟩
    obtain ⟨A', B', e1, e2, a, b⟩ := ih (j + 1) (zv_up A j v) (zv_up B j v) n (by omega) (by omega) (by omega)
    refine ⟨A', B', ?_, ?_, fun i i0 i1 => ?_, fun i i0 => ?_⟩
    · show zf_X_log_l0_b gl (zf_X_log_l0 gl n) j A = _
      unfold zf_X_log_l0_b
      rw [if_pos (by omega), ze_isLandX z j0 (by omega), zl_b, zl_ci j0 (by omega), zl_ci j0 (by omega), zi_w_id (x := j + 1) (by omega) (by omega), ← e1, hv]
      by_cases q : yg_ld gl j = true
      · rw [if_pos q, if_pos q, if_neg (by decide)]
      · rw [if_neg q, if_neg q, if_pos rfl]
    · show zf_M_log_l0_b m (zf_M_log_l0 m n) j B = _
      unfold zf_M_log_l0_b
      rw [if_pos (by omega), ze_isLandM z j0 (by omega), zl_b, zl_ci j0 (by omega), zl_ci j0 (by omega), zi_w_id (x := j + 1) (by omega) (by omega), ← e2, hv]
      by_cases q : yg_ld gl j = true
      · rw [if_pos q, if_pos q, if_neg (by decide)]
      · rw [if_neg q, if_neg q, if_pos rfl]
    · by_cases w : i = j
      · subst w
        obtain ⟨x, y⟩ := b i (by omega)
        rw [x, y, zv_up_s, zv_up_s, hv]
        exact ⟨rfl, rfl⟩
      · exact a i (by omega) i1
    · obtain ⟨x, y⟩ := b i (by omega)
      rw [x, y, zv_up_n (by omega), zv_up_n (by omega)]
      exact ⟨rfl, rfl⟩
theorem yp_count_l {A B : Int → Int} (h : ∀ i, 0 ≤ i → i < 288 → A i = B i) : ∀ (d : Nat) (j c f : Int) (n : Nat), j + d = 288 → 0 ≤ j → d < n → 0 ≤ c → c ≤ j →
    ∃ c' f', zf_X_countSpots_l0 A n c j = some c' ∧ zf_M_log_l3 B n c f j = some (c', f') ∧ (c ≠ 0 → f' = f) ∧ (c = 0 → (zf_X_firstSpot_l0 A n j = some (.inl ()) ∧ f' = f) ∨ zf_X_firstSpot_l0 A n j = some (.inr f')) := by
  intro d
  induction d with
  | zero =>
    intro j c f n e j0 hn c0 c1
    obtain ⟨n, rfl⟩ : ∃ q, n = q + 1 := ⟨n - 1, by omega⟩
    refine ⟨c, f, ?_, ?_, fun _ => rfl, fun _ => .inl ⟨?_, rfl⟩⟩
    · show zf_X_countSpots_l0_b A (zf_X_countSpots_l0 A n) c j = _
      unfold zf_X_countSpots_l0_b
      rw [if_neg (by omega)]
    · show zf_M_log_l3_b B (zf_M_log_l3 B n) c f j = _
      unfold zf_M_log_l3_b
      rw [if_neg (by omega)]
    · show zf_X_firstSpot_l0_b A (zf_X_firstSpot_l0 A n) j = _
      unfold zf_X_firstSpot_l0_b
      rw [if_neg (by omega)]
  | succ d ih =>
    intro j c f n e j0 hn c0 c1
    obtain ⟨n, rfl⟩ : ∃ q, n = q + 1 := ⟨n - 1, by omega⟩
    show ∃ c' f', zf_X_countSpots_l0_b A (zf_X_countSpots_l0 A n) c j = _ ∧ zf_M_log_l3_b B (zf_M_log_l3 B n) c f j = _ ∧ (c ≠ 0 → f' = f) ∧ (c = 0 → (zf_X_firstSpot_l0_b A (zf_X_firstSpot_l0 A n) j = _ ∧ f' = f) ∨ zf_X_firstSpot_l0_b A (zf_X_firstSpot_l0 A n) j = _)
    unfold zf_X_countSpots_l0_b zf_M_log_l3_b zf_X_firstSpot_l0_b
    rw [if_pos (show j < 288 by omega), if_pos (show j < 288 by omega), if_pos (show j < 288 by omega), zl_ci j0 (by omega), zl_ci j0 (by omega), zl_ci j0 (by omega), ← h j j0 (by omega), zi_w_id (x := j + 1) (by omega) (by omega), zi_w_id (x := c + 1) (by omega) (by omega)]
    by_cases q : A j = -1
    · rw [if_pos q, if_pos q, if_pos q]
      exact ih (j + 1) c f n (by omega) (by omega) (by omega) c0 (by omega)
    · rw [if_neg q, if_neg q, if_neg q]
      by_cases w : c = 0
      · rw [if_pos w]
        obtain ⟨c', f', e1, e2, e3, -⟩ := ih (j + 1) (c + 1) j n (by omega) (by omega) (by omega) (by omega) (by omega)
        have := e3 (by omega)
        exact ⟨c', f', e1, e2, fun x => absurd w x, fun _ => .inr (by rw [this])⟩
      · rw [if_neg w]
        obtain ⟨c', f', e1, e2, e3, -⟩ := ih (j + 1) (c + 1) f n (by omega) (by omega) (by omega) (by omega) (by omega)
        exact ⟨c', f', e1, e2, fun _ => e3 (by omega), fun x => absurd x w⟩
theorem yp_count {A B : Int → Int} (h : ∀ i, 0 ≤ i → i < 288 → A i = B i) : ∃ c f, zf_X_countSpots A = some c ∧ zf_X_firstSpot A = some f ∧ zf_M_log_l3 B zi_fu 0 (-2) 0 = some (c, f) := by
  obtain ⟨c, f, e1, e2, -, e4⟩ := yp_count_l h 288 0 0 (-2) zi_fu (by decide) (by decide) (by decide) (by decide) (by decide)
  refine ⟨c, f, ?_, ?_, e2⟩
  · unfold zf_X_countSpots
    rw [e1]; rfl
  · unfold zf_X_firstSpot
    rcases e4 rfl with ⟨e, ef⟩ | e
    · rw [e, zl_b, ef]; rfl
    · rw [e, zl_b]; rfl
end YSP
end
section
/-! home: alike on both sides. -/
section YHM
variable {L : zLW} {K V kd fr hf to C mk mf mh mt : Int → Int} {nc tS tL sP lP mc : Int} {t h u cl sc sr ch ts : Int} {co ro br wc wr m gp gl : Int → Int}
theorem ze_home_out {p s0 : Int} {Lo : Int → Int} {x5 x6 f1 : Int} {g0 g2 g6 g7 : Int → Int} (hx : x5 ≠ -2) (n : Nat) : zf_M_home_l1 p s0 mc mk mh mt C Lo (n + 1) x5 x6 f1 g0 g2 g6 g7 = some (x5, f1, g0, g2, g6, g7) := by
  show zf_M_home_l1_b p s0 mc mk mh mt C Lo (zf_M_home_l1 p s0 mc mk mh mt C Lo n) x5 x6 f1 g0 g2 g6 g7 = _
  unfold zf_M_home_l1_b
  by_cases q : 60 < x6
  · rw [if_pos q]
  · rw [if_neg q, if_neg hx]
theorem yh_l (R : yl_R L K V nc tS tL sP lP kd fr hf to mc C mk mf mh mt) {x y s0 F3 F4 F5 F14 : Int} {G0 J0 G12 Lo : Int → Int} (x1 : 0 ≤ x) (x2 : x ≤ 23) (y1 : 0 ≤ y) (y2 : y ≤ 11) (hJ : ∀ i, 0 ≤ i → i < 24 → J0 i = Lo i) :
    ∀ (d : Nat) (j f u f30 f31 f32 f33 f34 f1 : Int) (g1 g9 co ro g20 g21 g22 m g2 g6 g7 : Int → Int) (n n2 : Nat), 61 - j ≤ d → 1 ≤ j → d < n → d + 1 < n2 → yk_sky t h u cl sc sr ch co ro br wc wr m →
    ∃ f' u' f30' f31' f32' f33' f34' g1' g9' co' ro' g20' g21' g22' r f1' m' g2' g6' g7',
      ((zf_X_home_l0 x y F3 F4 F5 s0 tS F14 nc sP tL lP t h cl sc sr ch G0 kd hf to K V J0 G12 br wc wr n j f u f30 f31 f32 f33 f34 g1 g9 co ro g20 g21 g22 = some (.inl (f', u', f30', f31', f32', f33', f34', g1', g9', co', ro', g20', g21', g22')) ∧ r = -2) ∨
        zf_X_home_l0 x y F3 F4 F5 s0 tS F14 nc sP tL lP t h cl sc sr ch G0 kd hf to K V J0 G12 br wc wr n j f u f30 f31 f32 f33 f34 g1 g9 co ro g20 g21 g22 = some (.inr (r, F3, F4, F5, s0, F14, f', t, h, u', cl, sc, sr, ch, f30', f31', f32', f33', f34', G0, g1', g9', J0, G12, co', ro', br, wc, wr, g20', g21', g22'))) ∧
      zf_M_home_l1 (24 * y + x) s0 mc mk mh mt C Lo n2 (-2) j f1 m g2 g6 g7 = some (r, f1', m', g2', g6', g7') := by
  intro d
  induction d with
  | zero =>
    intro j f u f30 f31 f32 f33 f34 f1 g1 g9 co ro g20 g21 g22 m g2 g6 g7 n n2 e j1 hn hn2 k
    obtain ⟨n, rfl⟩ : ∃ q, n = q + 1 := ⟨n - 1, by omega⟩
    obtain ⟨n2, rfl⟩ : ∃ q, n2 = q + 1 := ⟨n2 - 1, by omega⟩
    refine ⟨f, u, f30, f31, f32, f33, f34, g1, g9, co, ro, g20, g21, g22, -2, f1, m, g2, g6, g7, .inl ⟨?_, rfl⟩, ?_⟩
    · show zf_X_home_l0_b x y F3 F4 F5 s0 tS F14 nc sP tL lP t h cl sc sr ch G0 kd hf to K V J0 G12 br wc wr (zf_X_home_l0 x y F3 F4 F5 s0 tS F14 nc sP tL lP t h cl sc sr ch G0 kd hf to K V J0 G12 br wc wr n) j f u f30 f31 f32 f33 f34 g1 g9 co ro g20 g21 g22 = _
      unfold zf_X_home_l0_b
      rw [if_pos (by omega)]
    · show zf_M_home_l1_b (24 * y + x) s0 mc mk mh mt C Lo (zf_M_home_l1 (24 * y + x) s0 mc mk mh mt C Lo n2) (-2) j f1 m g2 g6 g7 = _
      unfold zf_M_home_l1_b
      rw [if_pos (by omega)]
  | succ d ih =>
    intro j f u f30 f31 f32 f33 f34 f1 g1 g9 co ro g20 g21 g22 m g2 g6 g7 n n2 e j1 hn hn2 k
    obtain ⟨n, rfl⟩ : ∃ q, n = q + 1 := ⟨n - 1, by omega⟩
    obtain ⟨n2, rfl⟩ : ∃ q, n2 = q + 1 := ⟨n2 - 1, by omega⟩
    show ∃ f' u' f30' f31' f32' f33' f34' g1' g9' co' ro' g20' g21' g22' r f1' m' g2' g6' g7',
      ((zf_X_home_l0_b x y F3 F4 F5 s0 tS F14 nc sP tL lP t h cl sc sr ch G0 kd hf to K V J0 G12 br wc wr (zf_X_home_l0 x y F3 F4 F5 s0 tS F14 nc sP tL lP t h cl sc sr ch G0 kd hf to K V J0 G12 br wc wr n) j f u f30 f31 f32 f33 f34 g1 g9 co ro g20 g21 g22 = some (.inl (f', u', f30', f31', f32', f33', f34', g1', g9', co', ro', g20', g21', g22')) ∧ r = -2) ∨
        zf_X_home_l0_b x y F3 F4 F5 s0 tS F14 nc sP tL lP t h cl sc sr ch G0 kd hf to K V J0 G12 br wc wr (zf_X_home_l0 x y F3 F4 F5 s0 tS F14 nc sP tL lP t h cl sc sr ch G0 kd hf to K V J0 G12 br wc wr n) j f u f30 f31 f32 f33 f34 g1 g9 co ro g20 g21 g22 = some (.inr (r, F3, F4, F5, s0, F14, f', t, h, u', cl, sc, sr, ch, f30', f31', f32', f33', f34', G0, g1', g9', J0, G12, co', ro', br, wc, wr, g20', g21', g22'))) ∧
      zf_M_home_l1_b (24 * y + x) s0 mc mk mh mt C Lo (zf_M_home_l1 (24 * y + x) s0 mc mk mh mt C Lo n2) (-2) j f1 m g2 g6 g7 = some (r, f1', m', g2', g6', g7')
    unfold zf_X_home_l0_b zf_M_home_l1_b
    by_cases q : 60 < j
    · rw [if_pos q, if_pos q]
      exact ⟨f, u, f30, f31, f32, f33, f34, g1, g9, co, ro, g20, g21, g22, -2, f1, m, g2, g6, g7, .inl ⟨rfl, rfl⟩, rfl⟩
    rw [if_neg q, if_neg q, if_pos (show (-2 : Int) = -2 from rfl)]
    obtain ⟨co2, ro2, m2, e1, e2, k2, -⟩ := yk_night k
    obtain ⟨gA, e0, h0⟩ := ze_open (f := f30) (g := g20)
    rw [e1, zl_b, e0, zl_b, e2, zl_b]
    dsimp only
    obtain ⟨s', as', ho', a', g', S', eL, iL, -⟩ := yx_look (f2 := f31) (f3 := f32) (f6 := f33) (f := f) (g := g1) (S := g9) R k2 x1 x2 y1 y2 (yv_ca0 (ho := f34))
    obtain ⟨s2, g2', S2', J2, eM, iM, lM⟩ := ym_looks (f1 := f1) (g := g2) (S := g6) (J := g7) R k2 x1 x2 y1 y2
    rw [eL, zl_b, eM, zl_b]
    dsimp only
    have es := yv_is_eq iM iL
    subst es
    rw [zi_w_id (x := j + 1) (by omega) (by omega)]
    by_cases c : s2 = s0
    · rw [if_pos c, if_pos c]
      obtain ⟨f'', J', g3, pa', ph', S3, eD, iD, -⟩ := yx_draw (s := s2) (f := a') (J := g21) (g := g') (ph := g22) (S := S') (x := x) (y := y) R k2 (yv_cp0 h0)
      rw [eD, zl_b]
      dsimp only
      have ej := yv_il_eq iD lM
      unfold zf_View_hasLinesOf
      rcases yo_lines_eq (G := J') (H := J0) 24 0 zi_fu (by decide) (by decide) (by decide) with ⟨eH, hall⟩ | ⟨eH, i, i0, i1, hne⟩
      · rw [eH, zl_b]
        dsimp only [Sum.elim]
        rw [zl_b, if_neg (show ¬ (1 : Int) = 0 by decide)]
        rcases yh_l2 (G := J2) (H := Lo) 24 0 1 zi_fu (by decide) (by decide) (by decide) (.inr rfl) with ⟨eN, -, -⟩ | ⟨eN, w | ⟨i, i0, i1, hne⟩⟩
        · rw [eN, zl_b, if_neg (show ¬ (1 : Int) = 0 by decide)]
          obtain ⟨n2, rfl⟩ : ∃ q, n2 = q + 1 := ⟨n2 - 1, by omega⟩
          rw [ze_home_out (show j ≠ -2 by omega)]
          exact ⟨_, _, _, _, _, _, _, _, _, _, _, _, _, _, _, _, _, _, _, _, .inr rfl, rfl⟩
        · exact absurd w (by decide)
        · exact absurd (by rw [← ej i i0 i1, hall i i0 i1, hJ i i0 i1]) hne
      · rw [eH, zl_b]
        dsimp only [Sum.elim]
        rw [zl_b, if_pos (show (0 : Int) = 0 from rfl)]
        rcases yh_l2 (G := J2) (H := Lo) 24 0 1 zi_fu (by decide) (by decide) (by decide) (.inr rfl) with ⟨eN, -, hall⟩ | ⟨eN, -⟩
        · exact absurd (by rw [ej i i0 i1, hall i i0 i1, hJ i i0 i1]) hne
        · rw [eN, zl_b, if_pos (show (0 : Int) = 0 from rfl)]
          exact ih (j + 1) _ _ _ _ _ _ _ _ _ _ _ _ _ _ _ _ _ _ _ n n2 (by omega) (by omega) (by omega) (by omega) k2
    · rw [if_neg c, if_neg c]
      rcases yh_l2 (G := J2) (H := Lo) 24 0 0 zi_fu (by decide) (by decide) (by decide) (.inl rfl) with ⟨eN, w, -⟩ | ⟨eN, -⟩
      · exact absurd w (by decide)
      · rw [eN, zl_b, if_pos (show (0 : Int) = 0 from rfl)]
        exact ih (j + 1) _ _ _ _ _ _ _ _ _ _ _ _ _ _ _ _ _ _ _ n n2 (by omega) (by omega) (by omega) (by omega) k2
theorem yo_home (R : yl_R L K V nc tS tL sP lP kd fr hf to mc C mk mf mh mt) (k : yk_sky t h u cl sc sr ch co ro br wc wr m) {x y f3 f4 f5 f8 f14 f16 f20 f21 f22 f23 f24 f25 f27 f30 f31 f32 f33 f34 f1 : Int} {g0 g1 g9 g11 g12 g13 g14 g15 g17 g19 g20 g21 g22 h2 h6 h7 h8 h9 : Int → Int} :
    ∃ r f3' f4' f5' f8' f14' f16' f20' f21' f22' f23' f24' f25' f27' f30' f31' f32' f33' f34' g0' g1' g9' g11' g12' g13' g14' g15' g17' g19' g20' g21' g22' f1' m' h2' h6' h7' h8' h9',
      zf_X_home x y f3 f4 f5 h u f8 t sc sr cl tS f14 nc f16 sP tL lP f20 f21 f22 f23 f24 f25 ch f27 f30 f31 f32 f33 f34 g0 g1 co ro br kd hf to K g9 V g11 g12 g13 g14 g15 wc g17 wr g19 g20 g21 g22 = some (r, f3', f4', f5', f8', f14', f16', f20', f21', f22', f23', f24', f25', f27', f30', f31', f32', f33', f34', g0', g1', g9', g11', g12', g13', g14', g15', g17', g19', g20', g21', g22') ∧
      zf_M_home x y mc f1 m mk h2 mh mt C h6 h7 h8 h9 = some (r, f1', m', h2', h6', h7', h8', h9') ∧ ∀ j, 0 ≤ j → j < 422 → m' j = m j := by
  unfold zf_X_home zf_M_home
  rw [ze_X_isPlace, ze_M_isPlace, zl_b, zl_b]
  by_cases q : zs_pl x y = 0
  · rw [if_pos q, if_pos q]
    exact ⟨_, _, _, _, _, _, _, _, _, _, _, _, _, _, _, _, _, _, _, _, _, _, _, _, _, _, _, _, _, _, _, _, _, _, _, _, _, _, _, rfl, rfl, fun _ _ _ => rfl⟩
  rw [if_neg q, if_neg q]
  obtain ⟨x1, x2, y1, y2⟩ := zs_pl_ne q
  obtain ⟨f3', s', f14', f16', g0', g1', g9', J, g12', e1, i1, l1⟩ := yx_lad (f3 := f3) (f4 := f4) (f5 := f5) (f8 := f8) (f14 := f14) (f16 := f16) (g0 := g0) (g1 := g1) (g9 := g9) (g11 := g11) (g12 := g12) R k x1 (by omega : x ≤ 23) y1 (by omega : y ≤ 11)
  obtain ⟨s2, h2', h6', J2, e2, i2, l2⟩ := ym_looks (f1 := f1) (g := h2) (S := h6) (J := h7) R k x1 (by omega) y1 (by omega)
  rw [e1, zl_b, zi_w_id (x := 24 * y) (by omega) (by omega), zi_w_id (x := 24 * y + x) (by omega) (by omega), e2, zl_b]
  have es := yv_is_eq i2 i1
  subst es
  obtain ⟨Lo, e3, hL, -⟩ := yh_l0 (g1 := J2) 24 0 h8 zi_fu (by decide) (by decide) (by decide)
  obtain ⟨mA, e4, hA⟩ := ze_begins (g0 := m) (g := h9)
  unfold zf_Sky_copyFrom
  rw [zl_b]
  dsimp only
  rw [e3, zl_b, e4, zl_b]
  have k2 : yk_sky t h u cl sc sr ch (zv_cpy co g13 24) (zv_cpy ro g14 24) (zv_cpy br g15 24) (zv_cpy wc g17 24) (zv_cpy wr g19 24) m := yk_sky_cg k (fun j j1 j2 => zv_cpy_in j2) (fun j j1 j2 => zv_cpy_in j2) (fun j j1 j2 => zv_cpy_in j2) (fun j j1 j2 => zv_cpy_in j2) (fun j j1 j2 => zv_cpy_in j2) (fun _ _ _ => rfl)
  obtain ⟨f', u', f30', f31', f32', f33', f34', g1'', g9'', co', ro', g20', g21', g22', r, f1', m', g2', g6', g7', e5, e6⟩ := yh_l (t := t) (h := h) (cl := cl) (sc := sc) (sr := sr) (ch := ch) R (x := x) (y := y) (s0 := s2) (F3 := f3') (F4 := x) (F5 := y) (F14 := f14') (G0 := g0') (J0 := J) (G12 := g12') (Lo := Lo) x1 (by omega) y1 (by omega) (fun i i0 i1' => by rw [yv_il_eq l1 l2 i i0 i1', hL i i0 i1']) 60 1 f16' u f30 f31 f32 f33 f34 s2 g1' g9' _ _ g20 g21 g22 m h2' h6' J2 zi_fu zi_fu (by decide) (by decide) (by decide) (by decide) k2
  obtain ⟨mB, e7, hB⟩ := ze_again (g0 := mA) (g := m')
  rw [e6, zl_b]
  dsimp only
  rw [e7, zl_b]
  have fin : ∀ j, 0 ≤ j → j < 422 → mB j = m j := fun j j0 j1 => by rw [hB j j0 j1, hA j j0 j1]
  rcases e5 with ⟨e5, rfl⟩ | e5
  · rw [e5, zl_b]
    dsimp only [Sum.elim]
    exact ⟨_, _, _, _, _, _, _, _, _, _, _, _, _, _, _, _, _, _, _, _, _, _, _, _, _, _, _, _, _, _, _, _, _, _, _, _, _, _, _, rfl, rfl, fin⟩
  · rw [e5, zl_b]
    dsimp only [Sum.elim]
    exact ⟨_, _, _, _, _, _, _, _, _, _, _, _, _, _, _, _, _, _, _, _, _, _, _, _, _, _, _, _, _, _, _, _, _, _, _, _, _, _, _, rfl, rfl, fin⟩
end YHM
end
section
/-! The spreading over the sea: alike on both sides. -/
def ym_D (t : Int) (D Q E P : Int → Int) : Prop := (1 ≤ t ∧ t ≤ 288) ∧ (∀ v, 0 ≤ v → v < 288 → (D v = -1 ∧ E v = 1000000000) ∨ (0 ≤ D v ∧ D v < t ∧ E v = D v)) ∧ yn_n (fun j => decide (D j ≠ -1)) 288 = t ∧ ∀ i, 0 ≤ i → i < t → Q i = P i ∧ (0 ≤ Q i ∧ Q i < 288) ∧ D (Q i) ≠ -1
section YMS
variable {ts : Int} {gp gl m : Int → Int}
theorem ym_D_add {t x v : Int} {D Q E P : Int → Int} (h : ym_D t D Q E P) (x1 : 0 ≤ x) (x2 : x < 288) (hx : D x ≠ -1) (v1 : 0 ≤ v) (v2 : v < 288) (hv : D v = -1) : t < 288 ∧ E v = 1000000000 ∧ E x = D x ∧ (0 ≤ D x ∧ D x < 288) ∧ ym_D (t + 1) (zv_up D v (D x + 1)) (zv_up Q t v) (zv_up E v (D x + 1)) (zv_up P t v) := by
  obtain ⟨⟨t1, t2⟩, hd, hc, hq⟩ := h
  have dx : 0 ≤ D x ∧ D x < t ∧ E x = D x := by
    rcases hd x x1 x2 with ⟨a, _⟩ | a
    · exact absurd a hx
    · exact a
  have ev : E v = 1000000000 := by
    rcases hd v v1 v2 with ⟨_, a⟩ | ⟨a, _⟩
    · exact a
    · omega
  have nv : ¬ (fun j : Nat => decide (D j ≠ -1)) v.toNat = true := by
    show ¬ decide (D (v.toNat : Int) ≠ -1) = true
    rw [Int.toNat_of_nonneg v1, hv]; decide
  have lt : t < 288 := by
    have := yn_lt (f := fun j : Nat => decide (D j ≠ -1)) (g := fun _ => true) (k := v.toNat) nv rfl 288 (by omega) (fun _ _ _ => rfl)
    have b := yn_in (f := fun _ => true) 288
    omega
  refine ⟨lt, ev, dx.2.2, ⟨dx.1, by omega⟩, ⟨by omega, by omega⟩, fun w w1 w2 => ?_, ?_, fun i i0 i1 => ?_⟩
  · by_cases e : w = v
    · subst e
      rw [zv_up_s, zv_up_s]
      exact .inr ⟨by omega, by omega, rfl⟩
    · rw [zv_up_n e, zv_up_n e]
      rcases hd w w1 w2 with a | ⟨a, b, c⟩
      · exact .inl a
      · exact .inr ⟨a, by omega, c⟩
  · rw [← hc]
    refine yn_add (k := v.toNat) ?_ ?_ 288 (by omega) fun j _ hn => ?_
    · show decide (D (v.toNat : Int) ≠ -1) = false
      rw [Int.toNat_of_nonneg v1, hv]; rfl
    · show decide (zv_up D v (D x + 1) (v.toNat : Int) ≠ -1) = true
      rw [Int.toNat_of_nonneg v1, zv_up_s]
      exact decide_eq_true (by omega)
    · show decide (D (j : Int) ≠ -1) = decide (zv_up D v (D x + 1) (j : Int) ≠ -1)
      rw [zv_up_n (by omega)]
  · by_cases e : i = t
    · subst e
      rw [zv_up_s, zv_up_s, zv_up_s]
      exact ⟨rfl, ⟨v1, v2⟩, by omega⟩
    · obtain ⟨a, b, c⟩ := hq i i0 (by omega)
      rw [zv_up_n e, zv_up_n e]
      refine ⟨a, b, ?_⟩
      by_cases w : Q i = v
      · rw [w, zv_up_s]; omega
      · rw [zv_up_n w]; exact c
theorem ym_four (z : yk_sea ts gp gl m) {hd : Int} (h0 : 0 ≤ hd) : ∀ (d : Nat) (k t : Int) (D Q E P : Int → Int) (n : Nat), k + d = 5 → 1 ≤ k → d < n → hd < t → ym_D t D Q E P →
    ∃ t' D' Q' E' P', zf_Pilot_spread_288_l1 (Q hd) gl n t k D Q = some (t', D', Q') ∧ zf_M_sails_288_l2 hd m n t k E P = some (t', E', P') ∧ t ≤ t' ∧ ym_D t' D' Q' E' P' := by
  intro d
  induction d with
  | zero =>
    intro k t D Q E P n e k1 hn ht h
    obtain ⟨n, rfl⟩ : ∃ q, n = q + 1 := ⟨n - 1, by omega⟩
    refine ⟨t, D, Q, E, P, ?_, ?_, Int.le_refl _, h⟩
    · show zf_Pilot_spread_288_l1_b (Q hd) gl (zf_Pilot_spread_288_l1 (Q hd) gl n) t k D Q = _
      unfold zf_Pilot_spread_288_l1_b
      rw [if_neg (by omega)]
    · show zf_M_sails_288_l2_b hd m (zf_M_sails_288_l2 hd m n) t k E P = _
      unfold zf_M_sails_288_l2_b
      rw [if_pos (by omega)]
  | succ d ih =>
    intro k t D Q E P n e k1 hn ht h
    obtain ⟨n, rfl⟩ : ∃ q, n = q + 1 := ⟨n - 1, by omega⟩
    obtain ⟨⟨t1, t2⟩, hdd, hc, hq⟩ := id h
    obtain ⟨q1, ⟨q2, q3⟩, q4⟩ := hq hd h0 ht
    obtain ⟨g1, g2⟩ := yg_go_in (how := k) q2 q3
    show ∃ t' D' Q' E' P', zf_Pilot_spread_288_l1_b (Q hd) gl (zf_Pilot_spread_288_l1 (Q hd) gl n) t k D Q = _ ∧ zf_M_sails_288_l2_b hd m (zf_M_sails_288_l2 hd m n) t k E P = _ ∧ _
    unfold zf_Pilot_spread_288_l1_b zf_M_sails_288_l2_b
    rw [if_pos (show k < 5 by omega), if_neg (show ¬ 4 < k by omega), zl_ci h0 (by omega), ← q1, ze_goFrom z q2 q3, zl_b, ze_goesTo q2 q3, zl_b, zi_w_id (x := k + 1) (by omega) (by omega)]
    have nx := ih (k + 1) t D Q E P n (by omega) (by omega) (by omega) ht h
    by_cases a : yg_go (Q hd) k = -1
    · rw [if_pos (show yg_go (Q hd) k = -1 ∨ yg_ld gl (yg_go (Q hd) k) = true from .inl a), if_pos rfl, if_pos a]
      exact nx
    rw [if_neg a, ze_isLandM z (by omega) (by omega), zl_b]
    by_cases b : yg_ld gl (yg_go (Q hd) k) = true
    · rw [if_pos (show yg_go (Q hd) k = -1 ∨ yg_ld gl (yg_go (Q hd) k) = true from .inr b), if_pos rfl, if_pos b, if_neg (show ¬ (1 : Int) = 0 by decide)]
      exact nx
    rw [if_neg (show ¬ (yg_go (Q hd) k = -1 ∨ yg_ld gl (yg_go (Q hd) k) = true) from fun w => w.elim a b), if_neg a, if_neg b, if_pos rfl, zl_ci (show 0 ≤ yg_go (Q hd) k by omega) (by omega), zl_ci (show 0 ≤ yg_go (Q hd) k by omega) (by omega)]
    by_cases c : D (yg_go (Q hd) k) = -1
    · obtain ⟨lt, ev, ex, ⟨dx1, dx2⟩, hn2⟩ := ym_D_add h q2 q3 q4 (by omega) g2 c
      rw [if_pos c, if_pos lt, if_neg (show ¬ E (yg_go (Q hd) k) < 1000000000 by omega), zl_ci q2 (by omega), zl_ci q2 (by omega), zl_ci (show 0 ≤ t by omega) (by omega), zl_ci (show 0 ≤ t by omega) (by omega), ex, zi_w_id (x := D (Q hd) + 1) (by omega) (by omega), zi_w_id (x := t + 1) (by omega) (by omega)]
      obtain ⟨t', D', Q', E', P', e1, e2, e3, e4⟩ := ih (k + 1) (t + 1) _ _ _ _ n (by omega) (by omega) (by omega) (by omega) hn2
      rw [zv_up_n (show hd ≠ t by omega)] at e1
      exact ⟨t', D', Q', E', P', e1, e2, by omega, e4⟩
    · have e5 : E (yg_go (Q hd) k) < 1000000000 := by
        rcases hdd _ (by omega) g2 with ⟨w, _⟩ | ⟨w1, w2, w3⟩
        · exact absurd w c
        · omega
      rw [if_neg c, if_pos e5]
      exact nx
end YMS
end
section
/-! spread and sails: alike. -/
section YMT
variable {ts : Int} {gp gl m : Int → Int}
theorem ym_spread_l (z : yk_sea ts gp gl m) : ∀ (d : Nat) (k t : Int) (D Q E P : Int → Int) (n : Nat), 288 - k ≤ d → 0 ≤ k → d < n → ym_D t D Q E P →
    ∃ t' D' Q' E' P', zf_Pilot_spread_288_l0 gl n t k D Q = some (D', Q') ∧ zf_M_sails_288_l1 m n t k E P = some (E', P') ∧ ym_D t' D' Q' E' P' := by
  intro d
  induction d with
  | zero =>
    intro k t D Q E P n e k0 hn h
    obtain ⟨n, rfl⟩ : ∃ q, n = q + 1 := ⟨n - 1, by omega⟩
    have ht := h.1
    refine ⟨t, D, Q, E, P, ?_, ?_, h⟩
    · show zf_Pilot_spread_288_l0_b gl (zf_Pilot_spread_288_l0 gl n) t k D Q = _
      unfold zf_Pilot_spread_288_l0_b
      rw [if_neg (by omega)]
    · show zf_M_sails_288_l1_b m (zf_M_sails_288_l1 m n) t k E P = _
      unfold zf_M_sails_288_l1_b
      rw [if_neg (by omega)]
  | succ d ih =>
    intro k t D Q E P n e k0 hn h
    obtain ⟨n, rfl⟩ : ∃ q, n = q + 1 := ⟨n - 1, by omega⟩
    have ht := h.1
    show ∃ t' D' Q' E' P', zf_Pilot_spread_288_l0_b gl (zf_Pilot_spread_288_l0 gl n) t k D Q = _ ∧ zf_M_sails_288_l1_b m (zf_M_sails_288_l1 m n) t k E P = _ ∧ _
    unfold zf_Pilot_spread_288_l0_b zf_M_sails_288_l1_b
    by_cases c : k < t
    · obtain ⟨t1, D1, Q1, E1, P1, e1, e2, e3, e4⟩ := ym_four z k0 4 1 t D Q E P zi_fu (by decide) (by decide) (by decide) c h
      rw [if_pos c, if_pos c, if_pos (show k < 288 by omega), zl_ci k0 (by omega), e1, e2, zl_b, zl_b, zi_w_id (x := k + 1) (by omega) (by omega)]
      exact ih (k + 1) t1 D1 Q1 E1 P1 n (by omega) (by omega) (by omega) e4
    · rw [if_neg c, if_neg c]
      exact ⟨t, D, Q, E, P, rfl, rfl, h⟩
theorem ze_fill288_l0 {v : Int} : ∀ (d : Nat) (j : Int) (g : Int → Int) (n : Nat), j + d = 288 → 0 ≤ j → d < n → ∃ g2, zf_Arrays_fill_288_l0 v 288 n j g = some g2 ∧ (∀ i, j ≤ i → i < 288 → g2 i = v) ∧ ∀ i, i < j → g2 i = g i := by
  intro d
  induction d with
  | zero =>
    intro j g n e _ hn
    obtain ⟨n, rfl⟩ : ∃ q, n = q + 1 := ⟨n - 1, by omega⟩
    refine ⟨g, ?_, fun i _ _ => by omega, fun _ _ => rfl⟩
    show zf_Arrays_fill_288_l0_b v 288 (zf_Arrays_fill_288_l0 v 288 n) j g = _
    unfold zf_Arrays_fill_288_l0_b
    rw [if_neg (by omega)]
  | succ d ih =>
    intro j g n e j0 hn
    obtain ⟨n, rfl⟩ : ∃ q, n = q + 1 := ⟨n - 1, by omega⟩
    obtain ⟨g2, e1, a, b⟩ := ih (j + 1) (zv_up g j v) n (by omega) (by omega) (by omega)
    refine ⟨g2, ?_, fun i i1 i2 => ?_, fun i i1 => ?_⟩
    · show zf_Arrays_fill_288_l0_b v 288 (zf_Arrays_fill_288_l0 v 288 n) j g = _
      unfold zf_Arrays_fill_288_l0_b
      rw [if_pos (by omega), zl_ci j0 (by omega), zi_w_id (x := j + 1) (by omega) (by omega), e1]
    · by_cases q : i = j
      · subst q
        rw [b i (by omega), zv_up_s]
      · exact a i (by omega) i2
    · rw [b i (by omega), zv_up_n (by omega)]
theorem ze_far_l0 : ∀ (d : Nat) (j : Int) (g : Int → Int) (n : Nat), j + d = 288 → 0 ≤ j → d < n → ∃ g2, zf_M_sails_288_l0 n j g = some g2 ∧ (∀ i, j ≤ i → i < 288 → g2 i = 1000000000) ∧ ∀ i, i < j → g2 i = g i := by
  intro d
  induction d with
  | zero =>
    intro j g n e _ hn
    obtain ⟨n, rfl⟩ : ∃ q, n = q + 1 := ⟨n - 1, by omega⟩
    refine ⟨g, ?_, fun i _ _ => by omega, fun _ _ => rfl⟩
    show zf_M_sails_288_l0_b (zf_M_sails_288_l0 n) j g = _
    unfold zf_M_sails_288_l0_b
    rw [if_neg (by omega)]
  | succ d ih =>
    intro j g n e j0 hn
    obtain ⟨n, rfl⟩ : ∃ q, n = q + 1 := ⟨n - 1, by omega⟩
    obtain ⟨g2, e1, a, b⟩ := ih (j + 1) (zv_up g j 1000000000) n (by omega) (by omega) (by omega)
    refine ⟨g2, ?_, fun i i1 i2 => ?_, fun i i1 => ?_⟩
    · show zf_M_sails_288_l0_b (zf_M_sails_288_l0 n) j g = _
      unfold zf_M_sails_288_l0_b
      rw [if_pos (by omega), zl_ci j0 (by omega), zi_w_id (x := j + 1) (by omega) (by omega), e1]
    · by_cases q : i = j
      · subst q
        rw [b i (by omega), zv_up_s]
      · exact a i (by omega) i2
    · rw [b i (by omega), zv_up_n (by omega)]
theorem yn_zero {f : Nat → Bool} : ∀ n : Nat, (∀ j, j < n → f j = false) → yn_n f n = 0
  | 0, _ => rfl
  | n + 1, h => by
    show yn_n f n + (if f n = true then 1 else 0) = 0
    rw [yn_zero n fun j hj => h j (by omega), h n (by omega)]; rfl
theorem ym_spread (z : yk_sea ts gp gl m) {x : Int} (x1 : 0 ≤ x) (x2 : x < 288) {g0 g1 h0 h1 : Int → Int} : ∃ t D Q E P, zf_Pilot_spread_288 x g0 g1 gl = some (D, Q) ∧ zf_M_sails_288 x h0 h1 m = some (E, P) ∧ ym_D t D Q E P := by
  obtain ⟨D0, e0, a0, -⟩ := ze_fill288_l0 (v := -1) 288 0 g0 zi_fu (by decide) (by decide) (by decide)
  obtain ⟨E0, f0, b0, -⟩ := ze_far_l0 288 0 h0 zi_fu (by decide) (by decide) (by decide)
  have hi : ym_D 1 (zv_up D0 x 0) (zv_up g1 0 x) (zv_up E0 x 0) (zv_up h1 0 x) := by
    refine ⟨⟨by decide, by decide⟩, fun v v1 v2 => ?_, ?_, fun i i0 i1 => ?_⟩
    · by_cases w : v = x
      · subst w; rw [zv_up_s, zv_up_s]; exact .inr ⟨by decide, by decide, rfl⟩
      · rw [zv_up_n w, zv_up_n w]; exact .inl ⟨a0 v v1 v2, b0 v v1 v2⟩
    · have zz : yn_n (fun j : Nat => decide (D0 j ≠ -1)) 288 = 0 := yn_zero 288 fun j hj => by
        show decide (D0 (j : Int) ≠ -1) = false
        rw [a0 j (by omega) (by omega)]; rfl
      rw [yn_add (f := fun j : Nat => decide (D0 j ≠ -1)) (k := x.toNat) ?_ ?_ 288 (by omega) fun j _ hn => ?_, zz]
      · rfl
      · show decide (D0 (x.toNat : Int) ≠ -1) = false
        rw [a0 _ (by omega) (by omega)]; rfl
      · show decide (zv_up D0 x 0 (x.toNat : Int) ≠ -1) = true
        rw [Int.toNat_of_nonneg x1, zv_up_s]; rfl
      · show decide (D0 (j : Int) ≠ -1) = decide (zv_up D0 x 0 (j : Int) ≠ -1)
        rw [zv_up_n (by omega)]
    · obtain rfl : i = 0 := by omega
      rw [zv_up_s, zv_up_s, zv_up_s]
      exact ⟨rfl, ⟨x1, x2⟩, by decide⟩
  obtain ⟨t, D, Q, E, P, e1, e2, h⟩ := ym_spread_l z 288 0 1 _ _ _ _ zi_fu (by decide) (by decide) (by decide) hi
  refine ⟨t, D, Q, E, P, ?_, ?_, h⟩
  · unfold zf_Pilot_spread_288 zf_Arrays_fill_288
    rw [e0, zl_b, zl_b, zl_ci x1 (by omega), e1, zl_b]
  · unfold zf_M_sails_288
    rw [f0, zl_b, zl_ci x1 (by omega), e2, zl_b]
end YMT
end
section
/-! The place where two ships meet: alike. -/
section YMM
def ym_R (D E : Int → Int) : Prop := ∀ v, 0 ≤ v → v < 288 → (D v = -1 ∧ E v = 1000000000) ∨ (0 ≤ D v ∧ D v < 288 ∧ E v = D v)
theorem ym_R_of {t : Int} {D Q E P : Int → Int} (h : ym_D t D Q E P) : ym_R D E := fun v v1 v2 => by
  have ht := h.1
  rcases h.2.1 v v1 v2 with a | ⟨a, b, c⟩
  · exact .inl a
  · exact .inr ⟨a, by omega, c⟩
theorem ze_hoursTo {D F : Int → Int} {v : Int} (v1 : 0 ≤ v) (v2 : v < 288) : zf_Pilot_hoursTo v D F = some (if D v < F v then F v else D v) := by
  unfold zf_Pilot_hoursTo
  rw [zl_ci v1 (by omega), ze_Math_max, zl_b]
theorem ym_meet_l {D E F H : Int → Int} (a : ym_R D E) (b : ym_R F H) : ∀ (d : Nat) (j p c : Int) (n : Nat), j + d = 288 → 0 ≤ j → d < n → ((p = -1 ∧ c = 0 ∧ ∀ i, 0 ≤ i → i < j → D i = -1 ∨ F i = -1) ∨ (p = c ∧ 0 ≤ p ∧ p < 288 ∧ D p ≠ -1 ∧ F p ≠ -1)) →
    ∃ p' c', zf_Pilot_meetingPlace_l0 D F n p j = some p' ∧ zf_M_meeting_l0 E H n c j = some c' ∧ ((p' = -1 ∧ c' = 0 ∧ (D 0 = -1 ∨ F 0 = -1)) ∨ (p' = c' ∧ 0 ≤ p' ∧ p' < 288 ∧ D p' ≠ -1 ∧ F p' ≠ -1)) := by
  intro d
  induction d with
  | zero =>
    intro j p c n e j0 hn h
    obtain ⟨n, rfl⟩ : ∃ q, n = q + 1 := ⟨n - 1, by omega⟩
    refine ⟨p, c, ?_, ?_, ?_⟩
    · show zf_Pilot_meetingPlace_l0_b D F (zf_Pilot_meetingPlace_l0 D F n) p j = _
      unfold zf_Pilot_meetingPlace_l0_b
      rw [if_neg (by omega)]
    · show zf_M_meeting_l0_b E H (zf_M_meeting_l0 E H n) c j = _
      unfold zf_M_meeting_l0_b
      rw [if_neg (by omega)]
    · rcases h with ⟨h1, h2, h3⟩ | h
      · exact .inl ⟨h1, h2, h3 0 (by decide) (by omega)⟩
      · exact .inr h
  | succ d ih =>
    intro j p c n e j0 hn h
    obtain ⟨n, rfl⟩ : ∃ q, n = q + 1 := ⟨n - 1, by omega⟩
    have c0 : 0 ≤ c ∧ c < 288 := by rcases h with ⟨_, h2, _⟩ | ⟨h1, h2, h3, _⟩ <;> omega
    have aj := a j j0 (by omega)
    have bj := b j j0 (by omega)
    have ac := a c c0.1 c0.2
    have bc := b c c0.1 c0.2
    show ∃ p' c', zf_Pilot_meetingPlace_l0_b D F (zf_Pilot_meetingPlace_l0 D F n) p j = _ ∧ zf_M_meeting_l0_b E H (zf_M_meeting_l0 E H n) c j = _ ∧ _
    unfold zf_Pilot_meetingPlace_l0_b zf_M_meeting_l0_b
    rw [if_pos (show j < 288 by omega), if_pos (show j < 288 by omega), zl_ci j0 (by omega), zl_ci j0 (by omega), ze_mm, zl_b, zl_ci c0.1 (by omega), ze_mm, zl_b, zi_w_id (x := j + 1) (by omega) (by omega)]
    by_cases u : D j = -1 ∨ F j = -1
    · have hM : ¬ (if H j < E j then E j else H j) < (if H c < E c then E c else H c) := by
        have : (if H j < E j then E j else H j) = 1000000000 := by split <;> omega
        rw [this]; split <;> omega
      rw [if_neg hM]
      have nx := ih (j + 1) p c n (by omega) (by omega) (by omega) (by
        rcases h with ⟨h1, h2, h3⟩ | h
        · refine .inl ⟨h1, h2, fun i i0 i1 => ?_⟩
          by_cases w : i = j
          · subst w; exact u
          · exact h3 i i0 (by omega)
        · exact .inr h)
      by_cases u1 : D j = -1
      · rw [if_pos u1]; exact nx
      · rw [if_neg u1, if_pos (u.resolve_left u1)]; exact nx
    · rw [if_neg (fun w => u (.inl w)), if_neg (fun w => u (.inr w))]
      have u1 : D j ≠ -1 := fun w => u (.inl w)
      have u2 : F j ≠ -1 := fun w => u (.inr w)
      have go := fun p2 : Int => fun (q0 : 0 ≤ p2) (q1 : p2 < 288) (q2 : D p2 ≠ -1) (q3 : F p2 ≠ -1) => ih (j + 1) p2 p2 n (by omega) (by omega) (by omega) (.inr ⟨rfl, q0, q1, q2, q3⟩)
      rcases h with ⟨h1, h2, h3⟩ | ⟨h1, h2, h3, h4, h5⟩
      · rw [if_pos h1]
        by_cases w : j = 0
        · have hM : ¬ (if H j < E j then E j else H j) < (if H c < E c then E c else H c) := by
            rw [w, h2]; omega
          have hcj : c = j := by omega
          rw [if_neg hM, hcj]
          exact go j j0 (by omega) u1 u2
        · have hc := h3 c (by omega) (by omega)
          have hM : (if H j < E j then E j else H j) < (if H c < E c then E c else H c) := by
            have : (if H c < E c then E c else H c) = 1000000000 := by split <;> omega
            rw [this]; split <;> omega
          rw [if_pos hM]
          exact go j j0 (by omega) u1 u2
      · subst h1
        rw [if_neg (show ¬ p = -1 by omega), ze_hoursTo j0 (by omega), zl_b, ze_hoursTo h2 h3, zl_b]
        have x1 : (if H j < E j then E j else H j) = (if D j < F j then F j else D j) := by split <;> split <;> omega
        have x2 : (if H p < E p then E p else H p) = (if D p < F p then F p else D p) := by split <;> split <;> omega
        rw [x1, x2]
        by_cases w : (if D j < F j then F j else D j) < (if D p < F p then F p else D p)
        · rw [if_pos w, if_pos w]
          exact go j j0 (by omega) u1 u2
        · rw [if_neg w, if_neg w]
          exact go p h2 h3 h4 h5
end YMM
end
section
/-! Loops that end; the matcher's functions answer. -/
theorem zh_loop {α β : Type} {F : Nat → Int → α → Option β} {N : Int} {I : Int → α → Prop} {P : β → Prop}
    (hs : ∀ (n : Nat) (i : Int) (a : α), 0 ≤ i → i ≤ N → I i a → (∀ a', i < N → I (i + 1) a' → zh_ok (F n (i + 1) a') P) → zh_ok (F (n + 1) i a) P) :
    ∀ (d : Nat) (i : Int) (a : α) (n : Nat), N - i ≤ d → 0 ≤ i → i ≤ N → d < n → I i a → zh_ok (F n i a) P := by
  intro d
  induction d with
  | zero =>
    intro i a n e i0 i1 hn h
    obtain ⟨n, rfl⟩ : ∃ q, n = q + 1 := ⟨n - 1, by omega⟩
    exact hs n i a i0 i1 h fun a' hlt _ => by omega
  | succ d ih =>
    intro i a n e i0 i1 hn h
    obtain ⟨n, rfl⟩ : ∃ q, n = q + 1 := ⟨n - 1, by omega⟩
    exact hs n i a i0 i1 h fun a' hlt h' => ih (i + 1) a' n (by omega) (by omega) (by omega) (by omega) h'
theorem zh_ite {α : Type} {c : Prop} {dc : Decidable c} {x y : Option α} {P : α → Prop} (h1 : c → zh_ok x P) (h2 : ¬ c → zh_ok y P) : zh_ok (@ite (Option α) c dc x y) P := by
  by_cases h : c
  · rw [if_pos h]; exact h1 h
  · rw [if_neg h]; exact h2 h
theorem zh_t {α : Type} {x : Option α} {a : α} (h : x = some a) : zh_ok x fun _ => True := ⟨a, h, trivial⟩
theorem zh_bc {x : Int} : zh_ok (zf_Integer_bitCount x) fun _ => True := zh_t rfl
theorem zh_w1 {α : Type} {f : Int → Option α} {P : α → Prop} {i N : Int} (i0 : 0 ≤ i) (hi : i < N) (hN : N ≤ 1000000) (h : zh_ok (f (i + 1)) P) : zh_ok (f (zi_w (i + 1))) P := by
  rw [zi_w_id (x := i + 1) (by omega) (by omega)]; exact h
theorem zh_sum {α β γ : Type} {x : Option (α ⊕ β)} {f : α → Option γ} {g : β → Option γ} {Q : α ⊕ β → Prop} {P : γ → Prop} (h : zh_ok x Q) (h1 : ∀ a, Q (.inl a) → zh_ok (f a) P) (h2 : ∀ b, Q (.inr b) → zh_ok (g b) P) : zh_ok (x.bind fun q => Sum.elim f g q) P := by
  obtain ⟨o, rfl, q⟩ := h
  cases o with
  | inl a => exact h1 a q
  | inr b => exact h2 b q
def yw_so (g : Int → Int) : Prop := ∀ k, 0 ≤ k → k < 8 → 0 ≤ g k ∧ g k ≤ 23
theorem yw_so_up {g : Int → Int} {k v : Int} (h : yw_so g) (v0 : 0 ≤ v) (v1 : v ≤ 23) : yw_so (zv_up g k v) := fun j j0 j1 => by
  by_cases e : j = k
  · subst e; rw [zv_up_s]; omega
  · rw [zv_up_n e]; exact h j j0 j1
theorem yw_withLegs {x1 x2 : Int} {g0 : Int → Int} : zh_ok (zf_Matcher_withLegs x1 x2 g0) fun _ => True := by
  refine zh_bind (Q := fun _ => True) (zh_loop (F := fun n i (a : Int) => zf_Matcher_withLegs_l0 x1 x2 g0 n a i) (N := 24) (I := fun _ _ => True) (fun n i a i0 i1 _ k => ?_) 24 0 0 zi_fu (by decide) (by decide) (by decide) (by decide) trivial) fun o _ => zh_ret trivial
  show zh_ok (zf_Matcher_withLegs_l0_b x1 x2 g0 (zf_Matcher_withLegs_l0 x1 x2 g0 n) a i) _
  unfold zf_Matcher_withLegs_l0_b
  refine zh_ite (fun hi => ?_) fun _ => zh_ret trivial
  rw [zi_w_id (x := i + 1) (by omega) (by omega)]
  refine zh_ite (fun _ => k _ hi trivial) fun _ => zh_cond (zi_ix_of i0 (by omega)) (zh_bind zh_bc fun r4 _ => zh_ite (fun _ => k _ hi trivial) fun _ => k _ hi trivial)
theorem yw_begin {x2 f2 : Int} {g0 g1 g2 g3 : Int → Int} : zh_ok (zf_Matcher_begin_24 x2 f2 g0 g1 g2 g3) fun _ => True := by
  unfold zf_Matcher_begin_24
  refine zh_bind (Q := fun _ => True) (zh_loop (F := fun n i (a : Int → Int) => zf_Matcher_begin_24_l0 x2 g0 g2 n i a) (N := 8) (I := fun _ _ => True) (fun n i a i0 i1 _ k => ?_) 8 0 g1 zi_fu (by decide) (by decide) (by decide) (by decide) trivial) fun o _ =>
    zh_bind (Q := fun _ => True) (zh_loop (F := fun n i (a : Int → Int) => zf_Matcher_begin_24_l1 x2 g0 n i a) (N := 24) (I := fun _ _ => True) (fun n i a i0 i1 _ k => ?_) 24 0 g3 zi_fu (by decide) (by decide) (by decide) (by decide) trivial) fun o _ => zh_ret trivial
  · show zh_ok (zf_Matcher_begin_24_l0_b x2 g0 g2 (zf_Matcher_begin_24_l0 x2 g0 g2 n) i a) _
    unfold zf_Matcher_begin_24_l0_b
    refine zh_ite (fun hi => ?_) fun _ => zh_ret trivial
    rw [zi_w_id (x := i + 1) (by omega) (by omega)]
    exact zh_cond (zi_ix_of i0 (by omega)) (zh_bind zh_bc fun r3 _ => zh_bind yw_withLegs fun r4 _ => zh_cond (zi_ix_of i0 (by omega)) (k _ hi trivial))
  · show zh_ok (zf_Matcher_begin_24_l1_b x2 g0 (zf_Matcher_begin_24_l1 x2 g0 n) i a) _
    unfold zf_Matcher_begin_24_l1_b
    refine zh_ite (fun hi => ?_) fun _ => zh_ret trivial
    rw [zi_w_id (x := i + 1) (by omega) (by omega)]
    refine zh_cond (zi_ix_of i0 (by omega)) (zh_bind (Q := fun _ => True) (zh_loop (F := fun n j (a : Int → Int) => zf_Matcher_begin_24_l2 x2 i g0 n j a) (N := i) (I := fun _ _ => True) (fun n j a j0 j1 _ k2 => ?_) 24 0 _ zi_fu (by omega) (by decide) i0 (by decide) trivial) fun q _ => k _ hi trivial)
    show zh_ok (zf_Matcher_begin_24_l2_b x2 i g0 (zf_Matcher_begin_24_l2 x2 i g0 n) j a) _
    unfold zf_Matcher_begin_24_l2_b
    refine zh_ite (fun hj => ?_) fun _ => zh_ret trivial
    rw [zi_w_id (x := j + 1) (by omega) (by omega)]
    exact zh_ite (fun _ => zh_ret trivial) fun _ => zh_cond (zi_ix_of i0 (by omega)) (zh_cond (zi_ix_of j0 (by omega)) (zh_ite (fun _ => zh_ite (fun _ => k2 _ hj trivial) fun _ => k2 _ hj trivial) fun _ => k2 _ hj trivial))
theorem yw_tightest {x1 x2 : Int} {g0 g1 : Int → Int} (h1 : 0 ≤ x1) (h2 : x1 < 8) : zh_ok (zf_Matcher_tightest x1 x2 g0 g1) fun r => 0 ≤ r ∧ r < 8 := by
  refine zh_bind (Q := fun r => 0 ≤ r ∧ r < 8) (zh_loop (F := fun n i (a : Int × Int) => zf_Matcher_tightest_l0 x1 x2 g0 g1 n a.1 a.2 i) (N := 8) (I := fun _ a => 0 ≤ a.1 ∧ a.1 < 8) (fun n i a i0 i1 ha k => ?_) 8 0 (0, 200) zi_fu (by decide) (by decide) (by decide) (by decide) ⟨by decide, by decide⟩) fun o ho => zh_ret ho
  show zh_ok (zf_Matcher_tightest_l0_b x1 x2 g0 g1 (zf_Matcher_tightest_l0 x1 x2 g0 g1 n) a.1 a.2 i) _
  unfold zf_Matcher_tightest_l0_b
  refine zh_ite (fun hi => ?_) fun _ => zh_ret ha
  rw [zi_w_id (x := i + 1) (by omega) (by omega), zi_w_id (x := x1 * 8) (by omega) (by omega), zi_w_id (x := x1 * 8 + i) (by omega) (by omega)]
  exact zh_ite (fun _ => k a hi ha) fun _ => zh_cond (zi_ix_of (by omega) (by omega)) (zh_bind zh_bc fun r4 _ => zh_cond (zi_ix_of i0 (by omega)) (zh_bind zh_bc fun r6 _ => zh_ite (fun _ => k (_, _) hi ⟨i0, hi⟩) fun _ => k a hi ha))
theorem yw_narrow {x1 x2 x3 x4 : Int} {g0 g1 g2 : Int → Int} (h1 : 0 ≤ x1) (h2 : x1 < 8) (a1 : 0 ≤ x3) (a2 : x3 < 8) (b1 : 0 ≤ x4) (b2 : x4 < 24) : zh_ok (zf_Matcher_narrow x1 x2 x3 x4 g0 g1 g2) fun _ => True := by
  unfold zf_Matcher_narrow
  rw [zi_w_id (x := x1 * 8) (by omega) (by omega), zi_w_id (x := x1 * 8 + 8) (by omega) (by omega)]
  refine zh_sum (Q := fun _ => True) (zh_loop (F := fun n i (a : Int → Int) => zf_Matcher_narrow_l0 x2 x3 x4 (x1 * 8) (x1 * 8 + 8) g1 g2 n i a) (N := 8) (I := fun _ _ => True) (fun n i a i0 i1 _ k => ?_) 8 0 g0 zi_fu (by decide) (by decide) (by decide) (by decide) trivial) (fun a _ => zh_ret trivial) fun b _ => zh_ret trivial
  show zh_ok (zf_Matcher_narrow_l0_b x2 x3 x4 (x1 * 8) (x1 * 8 + 8) g1 g2 (zf_Matcher_narrow_l0 x2 x3 x4 (x1 * 8) (x1 * 8 + 8) g1 g2 n) i a) _
  unfold zf_Matcher_narrow_l0_b
  refine zh_ite (fun hi => ?_) fun _ => zh_ret trivial
  rw [zi_w_id (x := i + 1) (by omega) (by omega), zi_w_id (x := x1 * 8 + i) (by omega) (by omega), zi_w_id (x := x1 * 8 + 8 + i) (by omega) (by omega)]
  exact zh_ite (fun _ => k _ hi trivial) fun _ => zh_cond (zi_ix_of (by omega) (by omega)) (zh_cond (zi_ix_of a1 (by omega)) (zh_ite (fun _ => zh_ite (fun _ => zh_ret trivial) fun _ => zh_cond (zi_ix_of (by omega) (by omega)) (k _ hi trivial)) fun _ => zh_cond (zi_ix_of b1 (by omega)) (zh_ite (fun _ => zh_ret trivial) fun _ => zh_cond (zi_ix_of (by omega) (by omega)) (k _ hi trivial))))
theorem yw_besides {x1 : Int} {g0 : Int → Int} : zh_ok (zf_Matcher_besides x1 g0) fun _ => True := by
  refine zh_bind (Q := fun _ => True) (zh_loop (F := fun n i (a : Int) => zf_Matcher_besides_l0 x1 g0 n a i) (N := 24) (I := fun _ _ => True) (fun n i a i0 i1 _ k => ?_) 24 0 0 zi_fu (by decide) (by decide) (by decide) (by decide) trivial) fun o _ => zh_ret trivial
  show zh_ok (zf_Matcher_besides_l0_b x1 g0 (zf_Matcher_besides_l0 x1 g0 n) a i) _
  unfold zf_Matcher_besides_l0_b
  refine zh_ite (fun hi => ?_) fun _ => zh_ret trivial
  rw [zi_w_id (x := i + 1) (by omega) (by omega)]
  exact zh_ite (fun _ => k _ hi trivial) fun _ => zh_cond (zi_ix_of i0 (by omega)) (k _ hi trivial)
theorem yw_agree2 {x1 x7 v : Int} {g1 g2 : Int → Int} (h1 : 0 ≤ x1) (h2 : x1 ≤ 64) : zh_ok (zf_Matcher_agree_l2 x1 x7 g1 g2 zi_fu v 0) fun _ => True := by
  refine zh_loop (F := fun n i (a : Int) => zf_Matcher_agree_l2 x1 x7 g1 g2 n a i) (N := 8) (I := fun _ _ => True) (fun n i a i0 i1 _ k => ?_) 8 0 v zi_fu (by decide) (by decide) (by decide) (by decide) trivial
  show zh_ok (zf_Matcher_agree_l2_b x1 x7 g1 g2 (zf_Matcher_agree_l2 x1 x7 g1 g2 n) a i) _
  unfold zf_Matcher_agree_l2_b
  refine zh_ite (fun hi => ?_) fun _ => zh_ret trivial
  rw [zi_w_id (x := i + 1) (by omega) (by omega), zi_w_id (x := x1 + i) (by omega) (by omega)]
  exact zh_ite (fun _ => k _ hi trivial) fun _ => zh_cond (zi_ix_of (by omega) (by omega)) (zh_bind yw_besides fun _ _ => k _ hi trivial)
theorem yw_agree {x1 x2 : Int} {g0 g1 g2 : Int → Int} (h1 : 0 ≤ x1) (h2 : x1 ≤ 8) : zh_ok (zf_Matcher_agree x1 x2 g0 g1 g2) fun _ => True := by
  unfold zf_Matcher_agree
  rw [zi_w_id (x := x1 * 8) (by omega) (by omega)]
  obtain ⟨x3, e3⟩ : ∃ x3, x3 = x1 * 8 := ⟨_, rfl⟩
  rw [← e3]
  refine zh_sum (Q := fun _ => True) (zh_loop (F := fun n i (a : Int × (Int → Int)) => zf_Matcher_agree_l0 x2 x3 g0 g2 n a.1 i a.2) (N := 192) (I := fun _ _ => True) (fun n i a i0 i1 _ k => ?_) 192 0 (1, g1) zi_fu (by decide) (by decide) (by decide) (by decide) trivial) (fun a _ => zh_ret trivial) fun b _ => zh_ret trivial
  show zh_ok (zf_Matcher_agree_l0_b x2 x3 g0 g2 (zf_Matcher_agree_l0 x2 x3 g0 g2 n) a.1 i a.2) _
  unfold zf_Matcher_agree_l0_b
  refine zh_ite (fun hi => ?_) fun _ => zh_ret trivial
  rw [zi_w_id (x := i + 1) (by omega) (by omega)]
  refine zh_ite (fun _ => zh_ret trivial) fun _ => zh_sum (Q := fun _ => True) (zh_loop (F := fun n j (a : Int × (Int → Int)) => zf_Matcher_agree_l1 x2 x3 g0 g2 n a.1 j a.2) (N := 8) (I := fun _ _ => True) (fun n j a j0 j1 _ k2 => ?_) 8 0 (0, a.2) zi_fu (by decide) (by decide) (by decide) (by decide) trivial) (fun a _ => k (_, _) hi trivial) fun b _ => zh_ret trivial
  show zh_ok (zf_Matcher_agree_l1_b x2 x3 g0 g2 (zf_Matcher_agree_l1 x2 x3 g0 g2 n) a.1 j a.2) _
  unfold zf_Matcher_agree_l1_b
  refine zh_ite (fun hj => ?_) fun _ => zh_ret trivial
  rw [zi_w_id (x := j + 1) (by omega) (by omega), zi_w_id (x := x3 + j) (by omega) (by omega)]
  have kk : ∀ a b, zh_ok (zf_Matcher_agree_l1 x2 x3 g0 g2 n a (j + 1) b) fun _ => True := fun a b => k2 (a, b) hj trivial
  exact zh_ite (fun _ => zh_cond (zi_ix_of (by omega) (by omega)) (zh_bind (yw_agree2 (by omega) (by omega)) fun q _ => zh_ite (fun _ => zh_ite (fun _ => kk _ _) fun _ => kk _ _) fun _ => kk _ _))
    fun _ => zh_cond (zi_ix_of j0 (by omega)) (zh_cond (zi_ix_of (by omega) (by omega)) (zh_bind (yw_agree2 (by omega) (by omega)) fun q _ => zh_ite (fun _ => zh_ite (fun _ => zh_ite (fun _ => kk _ _) fun _ => kk _ _) fun _ => kk _ _) fun _ => zh_ite (fun _ => zh_ret trivial) fun _ => zh_ite (fun _ => zh_ite (fun _ => kk _ _) fun _ => kk _ _) fun _ => kk _ _))
theorem yw_search_g {g1 g2 g4 : Int → Int} : ∀ (n w : Nat) (x1 x2 x3 f2 : Int) (g0 g3 : Int → Int), 0 ≤ x1 → x1 ≤ 8 → 8 - x1 < n → yw_so g3 → zh_ok (zg_Matcher_search n w x1 x2 x3 f2 g0 g1 g2 g3 g4) fun o => yw_so o.2.2.2 := by
  intro n
  induction n with
  | zero => intro w x1 x2 x3 f2 g0 g3 h1 h2 h3 h4; omega
  | succ n ih =>
    intro w x1 x2 x3 f2 g0 g3 h1 h2 h3 h4
    show zh_ok (zm_Matcher_search (zg_Matcher_search n) x1 x2 x3 f2 g0 g1 g2 g3 g4) _
    unfold zm_Matcher_search
    refine zh_ite (fun _ => zh_ret h4) fun _ => zh_ite (fun h8 => ?_) fun _ => zh_ret h4
    refine zh_bind (yw_tightest h1 h8) fun r4 hr => ?_
    obtain ⟨r0, r1⟩ := hr
    rw [zi_w_id (x := x1 * 8) (by omega) (by omega), zi_w_id (x := x1 * 8 + r4) (by omega) (by omega)]
    refine zh_cond (zi_ix_of (by omega) (by omega)) (zh_bind (Q := fun q => yw_so q.2.2.2) ?_ fun q hq => ?_)
    · refine zh_loop (F := fun n2 i (a : Int × Int × Int × (Int → Int) × (Int → Int)) => zm_Matcher_search_l0 (zg_Matcher_search n) x1 x3 r4 (zi_and x2 (zi_xor (zi_shl 1 r4) (-1))) g1 g2 g4 n2 a.1 a.2.1 i a.2.2.1 a.2.2.2.1 a.2.2.2.2) (N := 24) (I := fun _ a => yw_so a.2.2.2.2) (fun n2 i a i0 i1 ha k => ?_) 24 0 (_, 0, f2, g0, g3) zi_fu (by decide) (by decide) (by decide) (by decide) h4
      show zh_ok (zm_Matcher_search_l0_b (zg_Matcher_search n) x1 x3 r4 (zi_and x2 (zi_xor (zi_shl 1 r4) (-1))) g1 g2 g4 (zm_Matcher_search_l0 (zg_Matcher_search n) x1 x3 r4 (zi_and x2 (zi_xor (zi_shl 1 r4) (-1))) g1 g2 g4 n2) a.1 a.2.1 i a.2.2.1 a.2.2.2.1 a.2.2.2.2) _
      unfold zm_Matcher_search_l0_b
      refine zh_ite (fun hi => ?_) fun _ => zh_ret ha
      rw [zi_w_id (x := i + 1) (by omega) (by omega), zi_w_id (x := x1 + 1) (by omega) (by omega)]
      have kk : ∀ b c d e (g : Int → Int), yw_so g → zh_ok (zm_Matcher_search_l0 (zg_Matcher_search n) x1 x3 r4 (zi_and x2 (zi_xor (zi_shl 1 r4) (-1))) g1 g2 g4 n2 b c (i + 1) d e g) fun q => yw_so q.2.2.2 := fun b c d e g hg => k (b, c, d, e, g) hi hg
      refine zh_ite (fun _ => ?_) fun _ => zh_ret ha
      refine zh_ite (fun _ => kk _ _ _ _ _ ha) fun _ => ?_
      have hu := yw_so_up (k := r4) ha i0 (by omega)
      refine zh_cond (zi_ix_of i0 (by omega)) (zh_bind zh_bc fun r10 _ => zh_cond (zi_ix_of r0 (by omega)) (zh_bind (yw_narrow h1 h8 r0 r1 i0 (by omega)) fun r12 _ => zh_ite (fun _ => kk _ _ _ _ _ hu) fun _ => zh_ite (fun _ => ?_) fun _ => ?_))
      · exact zh_bind (ih 0 (x1 + 1) _ _ _ _ _ (by omega) (by omega) (by omega) hu) fun r15 h15 => kk _ _ _ _ _ h15
      · exact zh_bind (yw_agree (by omega) (by omega)) fun r16 _ => zh_ite (fun _ => kk _ _ _ _ _ hu) fun _ => zh_bind (ih 0 (x1 + 1) _ _ _ _ _ (by omega) (by omega) (by omega) hu) fun r18 h18 => kk _ _ _ _ _ h18
    · rw [ze_Math_min, zl_b]
      exact zh_ret hq
theorem yw_search {x2 x3 f2 : Int} {g0 g1 g2 g3 g4 : Int → Int} (h : yw_so g3) : zh_ok (zf_Matcher_search 0 x2 x3 f2 g0 g1 g2 g3 g4) fun o => yw_so o.2.2.2 := yw_search_g 9 0 0 x2 x3 f2 g0 g3 (by decide) (by decide) (by decide) h
theorem yw_count {x2 x4 f2 f3 : Int} {g0 g1 g2 g3 g4 : Int → Int} (h : yw_so g4) : zh_ok (zf_Matcher_countWays_24 x2 x4 f2 f3 g0 g1 g2 g3 g4) fun o => yw_so o.2.2.2.2 := by
  unfold zf_Matcher_countWays_24
  exact zh_bind yw_begin fun r1 _ => zh_bind (yw_search h) fun r2 h2 => zh_ret h2
theorem yw_settle {x1 f1 f3 : Int} {g0 g1 g2 g3 g4 : Int → Int} (h1 : 0 ≤ x1) (h2 : x1 < 8) (h : yw_so g3) : zh_ok (zf_Matcher_settleLowest x1 f1 f3 g0 g1 g2 g3 g4) fun o => yw_so o.2.2.2 := by
  unfold zf_Matcher_settleLowest
  refine zh_cond (zi_ix_of h1 (by omega)) (zh_sum (Q := fun q => match q with
    | .inl a => yw_so a.2.2
    | .inr b => yw_so b.2.2.2) (zh_loop (F := fun n i (a : Int × (Int → Int) × (Int → Int)) => zf_Matcher_settleLowest_l0 x1 (g0 x1) f1 g1 g2 g4 n i a.1 a.2.1 a.2.2) (N := 24) (I := fun _ a => yw_so a.2.2) (fun n i a i0 i1 ha k => ?_) 24 0 (f3, g0, g3) zi_fu (by decide) (by decide) (by decide) (by decide) h) (fun a ha => zh_ret ha) fun b hb => zh_ret hb)
  show zh_ok (zf_Matcher_settleLowest_l0_b x1 (g0 x1) f1 g1 g2 g4 (zf_Matcher_settleLowest_l0 x1 (g0 x1) f1 g1 g2 g4 n) i a.1 a.2.1 a.2.2) _
  unfold zf_Matcher_settleLowest_l0_b
  refine zh_ite (fun hi => ?_) fun _ => zh_ret ha
  rw [zi_w_id (x := i + 1) (by omega) (by omega)]
  exact zh_ite (fun _ => k a hi ha) fun _ => zh_cond (zi_ix_of h1 (by omega)) (zh_bind (yw_search ha) fun r5 h5 => zh_ite (fun _ => zh_ret h5) fun _ => k (_, _, _) hi h5)
theorem yw_first {x2 f2 f3 : Int} {g0 g1 g2 g3 g4 : Int → Int} (h : yw_so g4) : zh_ok (zf_Matcher_findFirst_24 x2 f2 f3 g0 g1 g2 g3 g4) fun o => yw_so o.2.2.2.2 := by
  unfold zf_Matcher_findFirst_24
  refine zh_bind yw_begin fun r1 _ => zh_sum (Q := fun q => match q with
    | .inl a => yw_so a.2.2
    | .inr b => yw_so b.2.2.2.2) (zh_loop (F := fun n i (a : Int × (Int → Int) × (Int → Int)) => zf_Matcher_findFirst_24_l0 f3 g0 g2 r1.2.2 n i a.1 a.2.1 a.2.2) (N := 8) (I := fun _ a => yw_so a.2.2) (fun n i a i0 i1 ha k => ?_) 8 0 (_, _, g4) zi_fu (by decide) (by decide) (by decide) (by decide) h) (fun a ha => zh_ret ha) fun b hb => zh_ret hb
  show zh_ok (zf_Matcher_findFirst_24_l0_b f3 g0 g2 r1.2.2 (zf_Matcher_findFirst_24_l0 f3 g0 g2 r1.2.2 n) i a.1 a.2.1 a.2.2) _
  unfold zf_Matcher_findFirst_24_l0_b
  refine zh_ite (fun hi => ?_) fun _ => zh_ret ha
  rw [zi_w_id (x := i + 1) (by omega) (by omega)]
  exact zh_ite (fun _ => k a hi ha) fun _ => zh_bind (yw_settle i0 (by omega) ha) fun r4 h4 => zh_ite (fun _ => zh_ret h4) fun _ => k (_, _, _) hi h4
theorem yw_standing {x1 f0 : Int} {g0 : Int → Int} (h1 : 0 ≤ x1) (h2 : x1 ≤ 23) : zh_ok (zf_Sky_standing x1 f0 g0) fun _ => True := zh_cond (zi_ix_of h1 (by omega)) (zh_ret trivial)
theorem yw_notIn {x1 f0 f2 : Int} {g0 : Int → Int} : zh_ok (zf_Matcher_notIn x1 f0 f2 g0) fun _ => True := by
  refine zh_bind (Q := fun _ => True) (zh_loop (F := fun n i (a : Int) => zf_Matcher_notIn_l0 x1 f0 f2 g0 n a i) (N := 24) (I := fun _ _ => True) (fun n i a i0 i1 _ k => ?_) 24 0 0 zi_fu (by decide) (by decide) (by decide) (by decide) trivial) fun o _ => zh_ret trivial
  show zh_ok (zf_Matcher_notIn_l0_b x1 f0 f2 g0 (zf_Matcher_notIn_l0 x1 f0 f2 g0 n) a i) _
  unfold zf_Matcher_notIn_l0_b
  refine zh_ite (fun hi => ?_) fun _ => zh_ret trivial
  rw [zi_w_id (x := i + 1) (by omega) (by omega)]
  exact zh_ite (fun _ => k _ hi trivial) fun _ => zh_bind (yw_standing i0 (by omega)) fun r _ => zh_ite (fun _ => k _ hi trivial) fun _ => k _ hi trivial
theorem yw_colsOf {f0 f1 : Int} {g0 g1 : Int → Int} (h : yw_so g0) : zh_ok (zf_Matcher_columnsOfWay f0 f1 g0 g1) fun _ => True := by
  refine zh_bind (Q := fun _ => True) (zh_loop (F := fun n i (a : Int) => zf_Matcher_columnsOfWay_l0 f0 f1 g0 g1 n a i) (N := 8) (I := fun _ _ => True) (fun n i a i0 i1 _ k => ?_) 8 0 0 zi_fu (by decide) (by decide) (by decide) (by decide) trivial) fun o _ => zh_ret trivial
  show zh_ok (zf_Matcher_columnsOfWay_l0_b f0 f1 g0 g1 (zf_Matcher_columnsOfWay_l0 f0 f1 g0 g1 n) a i) _
  unfold zf_Matcher_columnsOfWay_l0_b
  refine zh_ite (fun hi => ?_) fun _ => zh_ret trivial
  rw [zi_w_id (x := i + 1) (by omega) (by omega)]
  exact zh_ite (fun _ => k _ hi trivial) fun _ => zh_cond (zi_ix_of i0 (by omega)) (zh_bind (yw_standing (h i i0 hi).1 (h i i0 hi).2) fun r _ => k _ hi trivial)
theorem yw_hide_g {f2 f3 f7 : Int} {g0 g1 g3 : Int → Int} : ∀ (n w : Nat) (x3 x4 f0 f6 : Int) (g2 g4 g5 : Int → Int), x4 ≤ 4 → x4 + 1 < n → 0 < n → yw_so g5 → zh_ok (zg_Matcher_hide n w x3 x4 f0 f2 f3 f6 f7 g0 g1 g2 g3 g4 g5) fun o => yw_so o.2.2.2.2 := by
  intro n
  induction n with
  | zero => intro w x3 x4 f0 f6 g2 g4 g5 h0 h1 h2; omega
  | succ n ih =>
    intro w x3 x4 f0 f6 g2 g4 g5 h0 h1 h2 h
    show zh_ok (zm_Matcher_hide (zg_Matcher_hide n) x3 x4 f0 f2 f3 f6 f7 g0 g1 g2 g3 g4 g5) _
    have lp : ∀ (q : Int) (f6 : Int) (g2 g4 g5 : Int → Int), 0 < x4 → yw_so g5 → zh_ok (zm_Matcher_hide_l0 (zg_Matcher_hide n) x3 x4 q f2 f3 f7 g0 g1 g3 zi_fu 0 f0 f6 g2 g4 g5) fun o => yw_so o.2.2.2.2 := by
      intro q f6 g2 g4 g5 hx h
      refine zh_loop (F := fun n2 i (a : Int × Int × (Int → Int) × (Int → Int) × (Int → Int)) => zm_Matcher_hide_l0 (zg_Matcher_hide n) x3 x4 q f2 f3 f7 g0 g1 g3 n2 i a.1 a.2.1 a.2.2.1 a.2.2.2.1 a.2.2.2.2) (N := 24) (I := fun _ a => yw_so a.2.2.2.2) (fun n2 i a i0 i1 ha k => ?_) 24 0 (f0, f6, g2, g4, g5) zi_fu (by decide) (by decide) (by decide) (by decide) h
      show zh_ok (zm_Matcher_hide_l0_b (zg_Matcher_hide n) x3 x4 q f2 f3 f7 g0 g1 g3 (zm_Matcher_hide_l0 (zg_Matcher_hide n) x3 x4 q f2 f3 f7 g0 g1 g3 n2) i a.1 a.2.1 a.2.2.1 a.2.2.2.1 a.2.2.2.2) _
      unfold zm_Matcher_hide_l0_b
      refine zh_ite (fun hi => ?_) fun _ => zh_ret ha
      rw [zi_w_id (x := i + 1) (by omega) (by omega), zi_w_id (x := x4 - 1) (by omega) (by omega)]
      exact zh_ite (fun _ => k a hi ha) fun _ => zh_bind (ih 0 _ (x4 - 1) _ _ _ _ _ (by omega) (by omega) (by omega) ha) fun r9 h9 => k (_, _, _, _, _) hi h9
    have all : zh_ok ((zf_Matcher_notIn x3 f2 f3 g0).bind fun r2 => ((zf_Matcher_countWays_24 r2 1 f6 f7 g1 g2 g3 g4 g5).bind fun r3 => (if r3.1 = 0 then (some (x3, r3.2.1, r3.2.2.1, r3.2.2.2.1, r3.2.2.2.2)) else (if 0 < x4 then ((zf_Matcher_columnsOfWay f7 f3 r3.2.2.2.2 g0).bind fun r6 => ((zm_Matcher_hide_l0 (zg_Matcher_hide n) x3 x4 r6 f2 f3 f7 g0 g1 g3 zi_fu 0 f0 r3.2.1 r3.2.2.1 r3.2.2.2.1 r3.2.2.2.2).bind fun q10 => (some (q10.1, q10.2.1, q10.2.2.1, q10.2.2.2.1, q10.2.2.2.2)))) else (some (f0, r3.2.1, r3.2.2.1, r3.2.2.2.1, r3.2.2.2.2)))))) fun o => yw_so o.2.2.2.2 :=
      zh_bind yw_notIn fun r2 _ => zh_bind (yw_count h) fun r3 h3 => zh_ite (fun _ => zh_ret h3) fun _ => zh_ite (fun hx => zh_bind (yw_colsOf h3) fun r6 _ => zh_bind (lp _ _ _ _ _ hx h3) fun q hq => zh_ret hq) fun _ => zh_ret h3
    unfold zm_Matcher_hide
    exact zh_ite (fun _ => all) fun _ => zh_ite (fun _ => all) fun _ => zh_ret h
theorem yw_fewest {f0 f2 f3 f6 f7 : Int} {g0 g1 g2 g3 g4 g5 : Int → Int} (h : yw_so g5) : zh_ok (zf_Matcher_fewestColumns f0 f2 f3 f6 f7 g0 g1 g2 g3 g4 g5) fun o => yw_so o.2.2.2.2.2 := by
  unfold zf_Matcher_fewestColumns
  refine zh_bind (Q := fun q => yw_so q.2.2.2.2) (zh_loop (F := fun n2 i (a : Int × Int × (Int → Int) × (Int → Int) × (Int → Int)) => zf_Matcher_fewestColumns_l0 f2 f3 f7 g0 g1 g3 n2 i a.1 a.2.1 a.2.2.1 a.2.2.2.1 a.2.2.2.2) (N := 5) (I := fun _ a => yw_so a.2.2.2.2) (fun n2 i a i0 i1 ha k => ?_) 5 1 (-1, f6, g2, g4, g5) zi_fu (by decide) (by decide) (by decide) (by decide) h) fun q hq => zh_ret hq
  show zh_ok (zf_Matcher_fewestColumns_l0_b f2 f3 f7 g0 g1 g3 (zf_Matcher_fewestColumns_l0 f2 f3 f7 g0 g1 g3 n2) i a.1 a.2.1 a.2.2.1 a.2.2.2.1 a.2.2.2.2) _
  unfold zf_Matcher_fewestColumns_l0_b
  refine zh_ite (fun _ => zh_ret ha) fun hi => zh_ite (fun _ => ?_) fun _ => zh_ret ha
  rw [zi_w_id (x := i + 1) (by omega) (by omega)]
  exact zh_bind (yw_hide_g 6 0 0 i _ _ _ _ _ (by omega) (by omega) (by decide) ha) fun r3 h3 => k (_, _, _, _, _) (by omega) h3
end
section
/-! The ways in which a tale is matched, on the reference's side: all of them, one after the other. -/
def yw_P (n : Int) (S fr nm to J : Int → Int) (q s : Int) : Prop := ∀ p, 0 ≤ p → p < q → S p ≠ s ∧ (yt_ln n fr to (nm p) (nm q) → zb (J s) (S p).toNat = true)
noncomputable def yw_ok (z n : Int) (fr nm to J : Int → Int) (S : Int → Int) (q s : Int) : Bool := zb z s.toNat && @decide (yw_P n S fr nm to J q s) (Classical.propDecidable _)
def yw_cat {α : Type} (f : Int → List α) : Nat → List α
  | 0 => []
  | k + 1 => f (23 - k) ++ yw_cat f k
def yw_L (ok : (Int → Int) → Int → Int → Bool) : Nat → Int → (Int → Int) → List (Int → Int)
  | 0, _, S => [S]
  | r + 1, q, S => yw_cat (fun s => cond (ok S q s) (yw_L ok r (q + 1) (zv_up S q s)) []) 24
def yw_T : Nat → Nat → Nat
  | 0, _ => 0
  | r + 1, k => 1 + k * (1 + yw_T r 24)
theorem yw_T_st {r k k2 : Nat} (h : k2 + 1 ≤ k) : yw_T (r + 1) k2 + (1 + yw_T r 24) ≤ yw_T (r + 1) k := by
  show 1 + k2 * (1 + yw_T r 24) + (1 + yw_T r 24) ≤ 1 + k * (1 + yw_T r 24)
  have := Nat.mul_le_mul_right (1 + yw_T r 24) h
  rw [Nat.succ_mul] at this
  omega
theorem yw_cat_0 {α : Type} {f : Int → List α} : ∀ k : Nat, k ≤ 24 → (∀ t : Int, 24 - (k : Int) ≤ t → t < 24 → f t = []) → yw_cat f k = []
  | 0, _, _ => rfl
  | k + 1, hk, h => by
    show f (23 - k) ++ yw_cat f k = []
    rw [h (23 - k) (by omega) (by omega), yw_cat_0 k (by omega) fun t t1 t2 => h t (by omega) t2]; rfl
theorem yw_cat_s {α : Type} {f : Int → List α} {s : Int} (s1 : s < 24) : ∀ k : Nat, k ≤ 24 → 24 - (k : Int) ≤ s → (∀ t : Int, 24 - (k : Int) ≤ t → t < s → f t = []) → yw_cat f k = f s ++ yw_cat f (23 - s).toNat
  | 0, _, hs, _ => by omega
  | k + 1, hk, hs, h => by
    show f (23 - k) ++ yw_cat f k = _
    by_cases e : s = 23 - k
    · rw [e, show (23 - (23 - (k : Int))).toNat = k by omega]
    · rw [h (23 - k) (by omega) (by omega), yw_cat_s s1 k (by omega) (by omega) fun t t1 t2 => h t (by omega) t2]; rfl
theorem ze_has2 {t i : Int} (k1 : 0 ≤ i) (k2 : i < 32) : zf_M_has t i = some (if zb t i.toNat = true then 1 else 0) := by
  unfold zf_M_has
  by_cases c : zb t i.toNat = true
  · rw [zb_bit1 k1 k2 c, if_pos rfl, if_pos c]
  · rw [zb_bit0 k1 k2 c, if_neg (by decide), if_neg c]
section YWC
variable {n : Int} {S fr nm to J : Int → Int} {q s : Int}
theorem yw_cb_l (n0 : n ≤ 12) (q1 : q ≤ 7) (s0 : 0 ≤ s) (s1 : s ≤ 23) {p : Int} (p0 : 0 ≤ p) (p1 : p < q) (S0 : 0 ≤ S p) (S1 : S p ≤ 23) : ∀ (d : Nat) (j : Int) (f : Nat), n - j ≤ d → 0 ≤ j → d < f →
    (zf_M_canBe_l1 q s p n S fr nm to J f j = some (.inl ()) ∧ ∀ i, j ≤ i → i < n → ((fr i = nm p ∧ to i = nm q) ∨ (fr i = nm q ∧ to i = nm p)) → zb (J s) (S p).toNat = true) ∨
    (zf_M_canBe_l1 q s p n S fr nm to J f j = some (.inr 0) ∧ (∃ i, j ≤ i ∧ i < n ∧ ((fr i = nm p ∧ to i = nm q) ∨ (fr i = nm q ∧ to i = nm p))) ∧ ¬ zb (J s) (S p).toNat = true) := by
  intro d
  induction d with
  | zero =>
    intro j f e j0 hf
    obtain ⟨f, rfl⟩ : ∃ q, f = q + 1 := ⟨f - 1, by omega⟩
    refine .inl ⟨?_, fun i i0 i1 => by omega⟩
    show zf_M_canBe_l1_b q s p n S fr nm to J (zf_M_canBe_l1 q s p n S fr nm to J f) j = _
    unfold zf_M_canBe_l1_b
    rw [if_neg (by omega)]
  | succ d ih =>
    intro j f e j0 hf
    obtain ⟨f, rfl⟩ : ∃ q, f = q + 1 := ⟨f - 1, by omega⟩
    show (zf_M_canBe_l1_b q s p n S fr nm to J (zf_M_canBe_l1 q s p n S fr nm to J f) j = _ ∧ _) ∨ (zf_M_canBe_l1_b q s p n S fr nm to J (zf_M_canBe_l1 q s p n S fr nm to J f) j = _ ∧ _)
    unfold zf_M_canBe_l1_b
    by_cases c : j < n
    · rw [if_pos c, zl_ci j0 (by omega), zl_ci p0 (by omega), zl_ci (show 0 ≤ q by omega) (by omega), zl_ci (show 0 ≤ q by omega) (by omega), zl_ci s0 (by omega), ze_has2 S0 (by omega), zl_b, zi_w_id (x := j + 1) (by omega) (by omega)]
      have nx := ih (j + 1) f (by omega) (by omega) (by omega)
      have skip : ¬ ((fr j = nm p ∧ to j = nm q) ∨ (fr j = nm q ∧ to j = nm p)) → (zf_M_canBe_l1 q s p n S fr nm to J f (j + 1) = some (.inl ()) ∧ ∀ i, j ≤ i → i < n → ((fr i = nm p ∧ to i = nm q) ∨ (fr i = nm q ∧ to i = nm p)) → zb (J s) (S p).toNat = true) ∨
          (zf_M_canBe_l1 q s p n S fr nm to J f (j + 1) = some (.inr 0) ∧ (∃ i, j ≤ i ∧ i < n ∧ ((fr i = nm p ∧ to i = nm q) ∨ (fr i = nm q ∧ to i = nm p))) ∧ ¬ zb (J s) (S p).toNat = true) := fun hne => by
        rcases nx with ⟨e1, a⟩ | ⟨e1, ⟨i, i0, i1, a⟩, b⟩
        · refine .inl ⟨e1, fun i i0 i1 hi => ?_⟩
          by_cases w : i = j
          · subst w; exact absurd hi hne
          · exact a i (by omega) i1 hi
        · exact .inr ⟨e1, ⟨i, by omega, i1, a⟩, b⟩
      have take : ((fr j = nm p ∧ to j = nm q) ∨ (fr j = nm q ∧ to j = nm p)) → ((if (if zb (J s) (S p).toNat = true then (1 : Int) else 0) = 0 then (some (.inr 0) : Option (Unit ⊕ Int)) else zf_M_canBe_l1 q s p n S fr nm to J f (j + 1)) = some (.inl ()) ∧ ∀ i, j ≤ i → i < n → ((fr i = nm p ∧ to i = nm q) ∨ (fr i = nm q ∧ to i = nm p)) → zb (J s) (S p).toNat = true) ∨
          ((if (if zb (J s) (S p).toNat = true then (1 : Int) else 0) = 0 then (some (.inr 0) : Option (Unit ⊕ Int)) else zf_M_canBe_l1 q s p n S fr nm to J f (j + 1)) = some (.inr 0) ∧ (∃ i, j ≤ i ∧ i < n ∧ ((fr i = nm p ∧ to i = nm q) ∨ (fr i = nm q ∧ to i = nm p))) ∧ ¬ zb (J s) (S p).toNat = true) := fun he => by
        by_cases b : zb (J s) (S p).toNat = true
        · rw [if_pos b, if_neg (show ¬ (1 : Int) = 0 by decide)]
          rcases nx with ⟨e1, a⟩ | ⟨e1, _, a⟩
          · exact .inl ⟨e1, fun _ _ _ _ => b⟩
          · exact absurd b a
        · rw [if_neg b, if_pos rfl]
          exact .inr ⟨rfl, ⟨j, Int.le_refl _, c, he⟩, b⟩
      by_cases a1 : fr j = nm p
      · rw [if_pos a1]
        by_cases a2 : to j = nm q
        · rw [if_pos a2]; exact take (.inl ⟨a1, a2⟩)
        · rw [if_neg a2]
          by_cases a3 : fr j = nm q
          · rw [if_pos a3]
            by_cases a4 : to j = nm p
            · rw [if_pos a4]; exact take (.inr ⟨a3, a4⟩)
            · rw [if_neg a4]; exact skip fun w => w.elim (fun w => a2 w.2) fun w => a4 w.2
          · rw [if_neg a3]; exact skip fun w => w.elim (fun w => a2 w.2) fun w => a3 w.1
      · rw [if_neg a1]
        by_cases a3 : fr j = nm q
        · rw [if_pos a3]
          by_cases a4 : to j = nm p
          · rw [if_pos a4]; exact take (.inr ⟨a3, a4⟩)
          · rw [if_neg a4]; exact skip fun w => w.elim (fun w => a1 w.1) fun w => a4 w.2
        · rw [if_neg a3]; exact skip fun w => w.elim (fun w => a1 w.1) fun w => a3 w.1
    · rw [if_neg c]
      exact .inl ⟨rfl, fun i i0 i1 => by omega⟩
theorem yw_cb_o (n0 : n ≤ 12) (q0 : 0 ≤ q) (q1 : q ≤ 7) (s0 : 0 ≤ s) (s1 : s ≤ 23) (hS : ∀ p, 0 ≤ p → p < q → 0 ≤ S p ∧ S p ≤ 23) : ∀ (d : Nat) (j : Int) (f : Nat), q - j ≤ d → 0 ≤ j → d < f →
    (zf_M_canBe_l0 q s n S fr nm to J f j = some (.inl ()) ∧ ∀ p, j ≤ p → p < q → S p ≠ s ∧ (yt_ln n fr to (nm p) (nm q) → zb (J s) (S p).toNat = true)) ∨
    (zf_M_canBe_l0 q s n S fr nm to J f j = some (.inr 0) ∧ ∃ p, j ≤ p ∧ p < q ∧ ¬ (S p ≠ s ∧ (yt_ln n fr to (nm p) (nm q) → zb (J s) (S p).toNat = true))) := by
  intro d
  induction d with
  | zero =>
    intro j f e j0 hf
    obtain ⟨f, rfl⟩ : ∃ q, f = q + 1 := ⟨f - 1, by omega⟩
    refine .inl ⟨?_, fun i i0 i1 => by omega⟩
    show zf_M_canBe_l0_b q s n S fr nm to J (zf_M_canBe_l0 q s n S fr nm to J f) j = _
    unfold zf_M_canBe_l0_b
    rw [if_neg (by omega)]
  | succ d ih =>
    intro j f e j0 hf
    obtain ⟨f, rfl⟩ : ∃ q, f = q + 1 := ⟨f - 1, by omega⟩
    show (zf_M_canBe_l0_b q s n S fr nm to J (zf_M_canBe_l0 q s n S fr nm to J f) j = _ ∧ _) ∨ (zf_M_canBe_l0_b q s n S fr nm to J (zf_M_canBe_l0 q s n S fr nm to J f) j = _ ∧ _)
    unfold zf_M_canBe_l0_b
    by_cases c : j < q
    · rw [if_pos c, zl_ci j0 (by omega), zi_w_id (x := j + 1) (by omega) (by omega)]
      by_cases a : S j = s
      · rw [if_pos a]
        exact .inr ⟨rfl, j, Int.le_refl _, c, fun w => w.1 a⟩
      · rw [if_neg a]
        rcases yw_cb_l (n := n) (S := S) (fr := fr) (nm := nm) (to := to) (J := J) n0 q1 s0 s1 j0 c (hS j j0 c).1 (hS j j0 c).2 12 0 zi_fu (by omega) (by decide) (by decide) with ⟨e1, b⟩ | ⟨e1, ⟨i, i0, i1, b⟩, b2⟩
        · rw [e1, zl_b]
          dsimp only [Sum.elim]
          have hj : S j ≠ s ∧ (yt_ln n fr to (nm j) (nm q) → zb (J s) (S j).toNat = true) := ⟨a, fun ⟨i, i0, i1, hi⟩ => b i i0 i1 hi⟩
          rcases ih (j + 1) f (by omega) (by omega) (by omega) with ⟨e2, h⟩ | ⟨e2, p, p0, p1, h⟩
          · refine .inl ⟨e2, fun p p0 p1 => ?_⟩
            by_cases w : p = j
            · subst w; exact hj
            · exact h p (by omega) p1
          · exact .inr ⟨e2, p, by omega, p1, h⟩
        · rw [e1, zl_b]
          dsimp only [Sum.elim]
          exact .inr ⟨rfl, j, Int.le_refl _, c, fun w => b2 (w.2 ⟨i, i0, i1, b⟩)⟩
    · rw [if_neg c]
      exact .inl ⟨rfl, fun i i0 i1 => by omega⟩
theorem yw_canBe (n0 : n ≤ 12) (q0 : 0 ≤ q) (q1 : q ≤ 7) (s0 : 0 ≤ s) (s1 : s ≤ 23) (hS : ∀ p, 0 ≤ p → p < q → 0 ≤ S p ∧ S p ≤ 23) :
    (zf_M_canBe q s n S fr nm to J = some 1 ∧ yw_P n S fr nm to J q s) ∨ (zf_M_canBe q s n S fr nm to J = some 0 ∧ ¬ yw_P n S fr nm to J q s) := by
  unfold zf_M_canBe
  rcases yw_cb_o (n := n) (S := S) (fr := fr) (nm := nm) (to := to) (J := J) n0 q0 q1 s0 s1 hS 8 0 zi_fu (by omega) (by decide) (by decide) with ⟨e1, b⟩ | ⟨e1, p, p0, p1, b⟩
  · rw [e1, zl_b]
    exact .inl ⟨rfl, b⟩
  · rw [e1, zl_b]
    exact .inr ⟨rfl, fun w => b (w p p0 p1)⟩
theorem yw_P_cg {S2 : Int → Int} (h : ∀ p, 0 ≤ p → p < q → S p = S2 p) : yw_P n S fr nm to J q s ↔ yw_P n S2 fr nm to J q s := by
  unfold yw_P
  constructor
  · intro w p p0 p1; rw [← h p p0 p1]; exact w p p0 p1
  · intro w p p0 p1; rw [h p p0 p1]; exact w p p0 p1
/-- the next star that fits -/
theorem yw_next {z : Int} {S0 : Int → Int} (n0 : n ≤ 12) (q0 : 0 ≤ q) (q1 : q ≤ 7) (hS : ∀ p, 0 ≤ p → p < q → S p = S0 p ∧ 0 ≤ S0 p ∧ S0 p ≤ 23) : ∀ (d : Nat) (j : Int) (f : Nat), 24 - j ≤ d → 0 ≤ j → j ≤ 24 → d < f →
    ∃ r, zf_M_ways_l1 q z n nm S fr to J f j = some r ∧ j ≤ r ∧ r ≤ 24 ∧ (r < 24 → yw_ok z n fr nm to J S0 q r = true) ∧ ∀ t, j ≤ t → t < r → yw_ok z n fr nm to J S0 q t = false := by
  intro d
  induction d with
  | zero =>
    intro j f e j0 j1 hf
    obtain ⟨f, rfl⟩ : ∃ q, f = q + 1 := ⟨f - 1, by omega⟩
    refine ⟨j, ?_, Int.le_refl _, j1, fun h => by omega, fun t t0 t1 => by omega⟩
    show zf_M_ways_l1_b q z n nm S fr to J (zf_M_ways_l1 q z n nm S fr to J f) j = _
    unfold zf_M_ways_l1_b
    rw [if_neg (by omega)]
  | succ d ih =>
    intro j f e j0 j1 hf
    obtain ⟨f, rfl⟩ : ∃ q, f = q + 1 := ⟨f - 1, by omega⟩
    by_cases c : j < 24
    · have nx : yw_ok z n fr nm to J S0 q j = false → ∃ r, zf_M_ways_l1 q z n nm S fr to J f (j + 1) = some r ∧ j ≤ r ∧ r ≤ 24 ∧ (r < 24 → yw_ok z n fr nm to J S0 q r = true) ∧ ∀ t, j ≤ t → t < r → yw_ok z n fr nm to J S0 q t = false := fun hn => by
        obtain ⟨r, e1, r0, r1, r2, r3⟩ := ih (j + 1) f (by omega) (by omega) (by omega) (by omega)
        refine ⟨r, e1, by omega, r1, r2, fun t t0 t1 => ?_⟩
        by_cases w : t = j
        · subst w; exact hn
        · exact r3 t (by omega) t1
      show ∃ r, zf_M_ways_l1_b q z n nm S fr to J (zf_M_ways_l1 q z n nm S fr to J f) j = some r ∧ _
      unfold zf_M_ways_l1_b
      rw [if_pos c, ze_has2 j0 (by omega), zl_b, zi_w_id (x := j + 1) (by omega) (by omega)]
      by_cases hz : zb z j.toNat = true
      · rw [if_pos hz, if_neg (show ¬ (1 : Int) = 0 by decide)]
        rcases yw_canBe (n := n) (S := S) (fr := fr) (nm := nm) (to := to) (J := J) (q := q) (s := j) n0 q0 q1 j0 (by omega) (fun p p0 p1 => by have := hS p p0 p1; omega) with ⟨e1, b⟩ | ⟨e1, b⟩
        · rw [e1, zl_b, if_neg (show ¬ (1 : Int) = 0 by decide)]
          refine ⟨j, rfl, Int.le_refl _, by omega, fun _ => ?_, fun t t0 t1 => by omega⟩
          unfold yw_ok
          rw [hz, Bool.true_and]
          exact @decide_eq_true _ (Classical.propDecidable _) ((yw_P_cg fun p p0 p1 => (hS p p0 p1).1).mp b)
        · rw [e1, zl_b, if_pos (show (0 : Int) = 0 from rfl)]
          refine nx ?_
          unfold yw_ok
          rw [hz, Bool.true_and]
          exact @decide_eq_false _ (Classical.propDecidable _) fun w => b ((yw_P_cg fun p p0 p1 => (hS p p0 p1).1).mpr w)
      · rw [if_neg hz, if_pos (show (0 : Int) = 0 from rfl)]
        refine nx ?_
        unfold yw_ok
        rw [Bool.eq_false_iff.mpr hz, Bool.false_and]
    · refine ⟨j, ?_, Int.le_refl _, j1, fun h => by omega, fun t t0 t1 => by omega⟩
      show zf_M_ways_l1_b q z n nm S fr to J (zf_M_ways_l1 q z n nm S fr to J f) j = _
      unfold zf_M_ways_l1_b
      rw [if_neg (by omega)]
end YWC
end
section
/-! The reference's search over names: level by level. -/
/-- the first way is noted, once -/
def yw_Q (Nn : Int) (nm : Int → Int) (n : Int) (Ls : List (Int → Int)) (g g' : Int → Int) : Prop :=
  (n = 0 → ∀ X, Ls.head? = some X → ∀ j, 0 ≤ j → j < Nn → g' (nm j) = X j) ∧ ((n ≠ 0 ∨ Ls = []) → g' = g)
theorem yw_Q_0 {Nn n : Int} {nm g : Int → Int} : yw_Q Nn nm n [] g g := ⟨fun _ X h => (by cases h), fun _ => rfl⟩
theorem yw_Q_app {Nn n : Int} {nm g g1 g2 : Int → Int} {A B : List (Int → Int)} (n0 : 0 ≤ n) (h1 : yw_Q Nn nm n A g g1) (h2 : yw_Q Nn nm (n + A.length) B g1 g2) : yw_Q Nn nm n (A ++ B) g g2 := by
  cases A with
  | nil =>
    have e : g1 = g := h1.2 (.inr rfl)
    subst e
    have e2 : n + (([] : List (Int → Int)).length : Int) = n := by show n + ((0 : Nat) : Int) = n; omega
    rw [e2] at h2
    exact h2
  | cons x A =>
    have hl : ((x :: A).length : Int) = A.length + 1 := by rw [List.length_cons]; omega
    have e : g2 = g1 := h2.2 (.inl (by omega))
    subst e
    refine ⟨fun hn X hX => h1.1 hn X (by simpa using hX), fun h => ?_⟩
    rcases h with h | h
    · exact h1.2 (.inl h)
    · cases h
theorem yw_Q_cut {Nn n : Int} {nm g g1 : Int → Int} {A B : List (Int → Int)} (h1 : yw_Q Nn nm n A g g1) (hA : A ≠ []) : yw_Q Nn nm n (A ++ B) g g1 := by
  cases A with
  | nil => exact absurd rfl hA
  | cons x A =>
    refine ⟨fun hn X hX => h1.1 hn X (by simpa using hX), fun h => ?_⟩
    rcases h with h | h
    · exact h1.2 (.inl h)
    · cases h
/-- the names, one behind the other -/
def yw_nmz (ni Nn : Int) (nm : Int → Int) : Prop := (0 ≤ Nn ∧ Nn ≤ 8) ∧ (∀ i j, 0 ≤ i → i < j → j < Nn → nm i < nm j) ∧ (∀ j, 0 ≤ j → j < Nn → 0 ≤ nm j ∧ nm j ≤ 7 ∧ zb ni (nm j).toNat = true) ∧ ∀ b : Nat, b < 8 → zb ni b = true → ∃ j, 0 ≤ j ∧ j < Nn ∧ nm j = b
theorem yw_names_l {ni : Int} : ∀ (d : Nat) (i c : Int) (g : Int → Int) (f : Nat), i + d = 8 → 0 ≤ i → d < f → 0 ≤ c → c ≤ i →
    (∀ a b, 0 ≤ a → a < b → b < c → g a < g b) → (∀ j, 0 ≤ j → j < c → 0 ≤ g j ∧ g j < i ∧ zb ni (g j).toNat = true) → (∀ b : Nat, b < i → zb ni b = true → ∃ j, 0 ≤ j ∧ j < c ∧ g j = b) → ∃ c' g', zf_M_laysNames_l0 ni f i c g = some (c', g') ∧ yw_nmz ni c' g' := by
  intro d
  induction d with
  | zero =>
    intro i c g f e i0 hf c0 c1 h1 h2 h3
    obtain ⟨f, rfl⟩ : ∃ q, f = q + 1 := ⟨f - 1, by omega⟩
    refine ⟨c, g, ?_, ⟨c0, by omega⟩, h1, fun j j0 j1 => ?_, fun b hb => h3 b (by omega)⟩
    · show zf_M_laysNames_l0_b ni (zf_M_laysNames_l0 ni f) i c g = _
      unfold zf_M_laysNames_l0_b
      rw [if_neg (by omega)]
    · obtain ⟨a1, a2, a3⟩ := h2 j j0 j1
      exact ⟨a1, by omega, a3⟩
  | succ d ih =>
    intro i c g f e i0 hf c0 c1 h1 h2 h3
    obtain ⟨f, rfl⟩ : ∃ q, f = q + 1 := ⟨f - 1, by omega⟩
    show ∃ c' g', zf_M_laysNames_l0_b ni (zf_M_laysNames_l0 ni f) i c g = some (c', g') ∧ yw_nmz ni c' g'
    unfold zf_M_laysNames_l0_b
    rw [if_pos (by omega), ze_has2 i0 (by omega), zl_b, zi_w_id (x := i + 1) (by omega) (by omega)]
    by_cases hz : zb ni i.toNat = true
    · rw [if_pos hz, if_neg (show ¬ (1 : Int) = 0 by decide), zl_ci c0 (by omega), zi_w_id (x := c + 1) (by omega) (by omega)]
      refine ih (i + 1) (c + 1) (zv_up g c i) f (by omega) (by omega) (by omega) (by omega) (by omega) (fun a b a0 ab b1 => ?_) (fun j j0 j1 => ?_) (fun b hb hzb => ?_)
      · by_cases w : b = c
        · subst w
          rw [zv_up_s, zv_up_n (by omega)]
          exact (h2 a a0 (by omega)).2.1
        · rw [zv_up_n w, zv_up_n (by omega)]
          exact h1 a b a0 ab (by omega)
      · by_cases w : j = c
        · subst w
          rw [zv_up_s]
          exact ⟨i0, by omega, hz⟩
        · rw [zv_up_n w]
          obtain ⟨a1, a2, a3⟩ := h2 j j0 (by omega)
          exact ⟨a1, by omega, a3⟩
      · by_cases w : (b : Int) = i
        · exact ⟨c, c0, by omega, by rw [zv_up_s]; exact w.symm⟩
        · obtain ⟨j, j0, j1, hj⟩ := h3 b (by omega) hzb
          exact ⟨j, j0, by omega, by rw [zv_up_n (by omega)]; exact hj⟩
    · rw [if_neg hz, if_pos (show (0 : Int) = 0 from rfl)]
      refine ih (i + 1) c g f (by omega) (by omega) (by omega) c0 (by omega) h1 (fun j j0 j1 => ?_) (fun b hb hzb => ?_)
      · obtain ⟨a1, a2, a3⟩ := h2 j j0 j1
        exact ⟨a1, by omega, a3⟩
      · by_cases w : (b : Int) = i
        · rw [← w] at hz
          exact absurd hzb hz
        · exact h3 b (by omega) hzb
theorem yw_names {f0 ni : Int} {g : Int → Int} : ∃ c' g', zf_M_laysNames f0 ni g = some (c', g') ∧ yw_nmz ni c' g' := by
  obtain ⟨c', g', e, h⟩ := yw_names_l (ni := ni) 8 0 0 g zi_fu (by decide) (by decide) (by decide) (by decide) (by decide) (fun a b a0 ab b1 => by omega) (fun j j0 j1 => by omega) (fun b hb => by omega)
  refine ⟨c', g', ?_, h⟩
  unfold zf_M_laysNames
  rw [e, zl_b]
theorem yw_note {Nn ni : Int} {nm X : Int → Int} (hn : yw_nmz ni Nn nm) : ∀ (d : Nat) (j : Int) (g : Int → Int) (f : Nat), Nn - j ≤ d → 0 ≤ j → d < f → (∀ i, 0 ≤ i → i < j → i < Nn → g (nm i) = X i) → ∃ g', zf_M_ways_l2 Nn nm X f j g = some g' ∧ ∀ i, 0 ≤ i → i < Nn → g' (nm i) = X i := by
  intro d
  induction d with
  | zero =>
    intro j g f e j0 hf h
    obtain ⟨f, rfl⟩ : ∃ q, f = q + 1 := ⟨f - 1, by omega⟩
    refine ⟨g, ?_, fun i i0 i1 => h i i0 (by omega) i1⟩
    show zf_M_ways_l2_b Nn nm X (zf_M_ways_l2 Nn nm X f) j g = _
    unfold zf_M_ways_l2_b
    rw [if_neg (by omega)]
  | succ d ih =>
    intro j g f e j0 hf h
    obtain ⟨f, rfl⟩ : ∃ q, f = q + 1 := ⟨f - 1, by omega⟩
    show ∃ g', zf_M_ways_l2_b Nn nm X (zf_M_ways_l2 Nn nm X f) j g = some g' ∧ _
    unfold zf_M_ways_l2_b
    obtain ⟨⟨m0, m1⟩, hi, hr, -⟩ := id hn
    by_cases c : j < Nn
    · obtain ⟨r1, r2, -⟩ := hr j j0 c
      rw [if_pos c, zl_ci j0 (by omega), zl_ci r1 (by omega), zi_w_id (x := j + 1) (by omega) (by omega)]
      refine ih (j + 1) _ f (by omega) (by omega) (by omega) fun i i0 i1 i2 => ?_
      by_cases w : i = j
      · subst w; rw [zv_up_s]
      · rw [zv_up_n (by have := hi i j i0 (by omega) c; omega)]
        exact h i i0 (by omega) i2
    · rw [if_neg c]
      exact ⟨g, rfl, fun i i0 i1 => h i i0 (by omega) i1⟩
section YWL
variable {n ni z Nn most : Int} {fr nm to J nr : Int → Int}
theorem yw_lev (n0 : n ≤ 12) (hn : yw_nmz ni Nn nm) (hm : most ≤ 10000) : ∀ (r : Nat) (k : Nat) (q c : Int) (S0 S g : Int → Int) (f : Nat), k ≤ 24 → q + (r + 1) = Nn → 0 ≤ q → (∀ p, 0 ≤ p → p < q → S p = S0 p ∧ 0 ≤ S0 p ∧ S0 p ≤ 23) → S q = 23 - (k : Int) → 0 ≤ c → c < most → yw_T (r + 1) k + 1 < f →
    ∃ S' g', yw_Q Nn nm c (yw_cat (fun s => cond (yw_ok z n fr nm to J S0 q s) (yw_L (yw_ok z n fr nm to J) r (q + 1) (zv_up S0 q s)) []) k) g g' ∧
      ((c + (yw_cat (fun s => cond (yw_ok z n fr nm to J S0 q s) (yw_L (yw_ok z n fr nm to J) r (q + 1) (zv_up S0 q s)) []) k).length < most ∧ (∀ p, 0 ≤ p → p < q → S' p = S p) ∧ ∃ f', f ≤ f' + yw_T (r + 1) k ∧ zf_M_ways_l0 most Nn z n nm fr to J f c q S g = zf_M_ways_l0 most Nn z n nm fr to J f' (c + (yw_cat (fun s => cond (yw_ok z n fr nm to J S0 q s) (yw_L (yw_ok z n fr nm to J) r (q + 1) (zv_up S0 q s)) []) k).length) (q - 1) S' g') ∨
       (most ≤ c + (yw_cat (fun s => cond (yw_ok z n fr nm to J S0 q s) (yw_L (yw_ok z n fr nm to J) r (q + 1) (zv_up S0 q s)) []) k).length ∧ zf_M_ways_l0 most Nn z n nm fr to J f c q S g = some (most, S', g'))) := by
  obtain ⟨⟨m0, m1⟩, -, -, -⟩ := id hn
  intro r
  induction r with
  | zero =>
    intro k
    induction k using Nat.strongRecOn with
    | ind k ihk =>
      intro q c S0 S g f hk hq q0 hS hSq c0 c1 hf
      obtain ⟨f, rfl⟩ : ∃ q, f = q + 1 := ⟨f - 1, by omega⟩
      obtain ⟨s, e1, s0, s1, s2, s3⟩ := yw_next (n := n) (S := S) (fr := fr) (nm := nm) (to := to) (J := J) (q := q) (z := z) (S0 := S0) n0 q0 (by omega) hS 24 (24 - (k : Int)) zi_fu (by omega) (by omega) (by omega) (by decide)
      have body : zf_M_ways_l0 most Nn z n nm fr to J (f + 1) c q S g = zf_M_ways_l0_b most Nn z n nm fr to J (zf_M_ways_l0 most Nn z n nm fr to J f) c q S g := rfl
      rw [body]
      unfold zf_M_ways_l0_b
      rw [if_neg (show ¬ q < 0 by omega), if_pos c1, zl_ci q0 (by omega), hSq, zi_w_id (x := 23 - (k : Int) + 1) (by omega) (by omega), show 23 - (k : Int) + 1 = 24 - (k : Int) by omega, e1, zl_b]
      have hT : 1 ≤ yw_T (0 + 1) k := by show 1 ≤ 1 + k * (1 + yw_T 0 24); omega
      by_cases w : s = 24
      · have hnil := yw_cat_0 (f := fun s => cond (yw_ok z n fr nm to J S0 q s) (yw_L (yw_ok z n fr nm to J) 0 (q + 1) (zv_up S0 q s)) []) k hk fun t t0 t1 => by show cond (yw_ok z n fr nm to J S0 q t) _ _ = _; rw [s3 t t0 (by omega)]; rfl
        rw [if_pos w, hnil, zi_w_id (x := q - 1) (by omega) (by omega)]
        refine ⟨S, g, yw_Q_0, .inl ⟨by show c + ((0 : Nat) : Int) < most; omega, fun _ _ _ => rfl, f, by omega, ?_⟩⟩
        rw [show c + (([] : List (Int → Int)).length : Int) = c from Int.add_zero c]
      · rw [if_neg w, zi_w_id (x := q + 1) (by omega) (by omega), if_neg (show ¬ q + 1 < Nn by omega), zi_w_id (x := c + 1) (by omega) (by omega)]
        have hcat := yw_cat_s (f := fun s => cond (yw_ok z n fr nm to J S0 q s) (yw_L (yw_ok z n fr nm to J) 0 (q + 1) (zv_up S0 q s)) []) (s := s) (by omega) k hk s0 fun t t0 t1 => by show cond (yw_ok z n fr nm to J S0 q t) _ _ = _; rw [s3 t t0 t1]; rfl
        have hfs : cond (yw_ok z n fr nm to J S0 q s) (yw_L (yw_ok z n fr nm to J) 0 (q + 1) (zv_up S0 q s)) [] = [zv_up S0 q s] := by rw [s2 (by omega)]; rfl
        rw [hfs] at hcat
        rw [hcat]
        have agree : ∀ j, 0 ≤ j → j < Nn → zv_up S q s j = zv_up S0 q s j := fun j j0 j1 => by
          by_cases w : j = q
          · subst w; rw [zv_up_s, zv_up_s]
          · rw [zv_up_n w, zv_up_n w]; exact (hS j j0 (by omega)).1
        have hT2 := yw_T_st (r := 0) (k := k) (k2 := (23 - s).toNat) (by omega)
        have go : ∀ g1, yw_Q Nn nm c [zv_up S0 q s] g g1 → ∃ S' g', yw_Q Nn nm c ([zv_up S0 q s] ++ yw_cat (fun s => cond (yw_ok z n fr nm to J S0 q s) (yw_L (yw_ok z n fr nm to J) 0 (q + 1) (zv_up S0 q s)) []) (23 - s).toNat) g g' ∧
            ((c + (([zv_up S0 q s] ++ yw_cat (fun s => cond (yw_ok z n fr nm to J S0 q s) (yw_L (yw_ok z n fr nm to J) 0 (q + 1) (zv_up S0 q s)) []) (23 - s).toNat).length : Nat) < most ∧ (∀ p, 0 ≤ p → p < q → S' p = S p) ∧ ∃ f', f + 1 ≤ f' + yw_T (0 + 1) k ∧ zf_M_ways_l0 most Nn z n nm fr to J f (c + 1) q (zv_up S q s) g1 = zf_M_ways_l0 most Nn z n nm fr to J f' (c + (([zv_up S0 q s] ++ yw_cat (fun s => cond (yw_ok z n fr nm to J S0 q s) (yw_L (yw_ok z n fr nm to J) 0 (q + 1) (zv_up S0 q s)) []) (23 - s).toNat).length : Nat)) (q - 1) S' g') ∨
             (most ≤ c + (([zv_up S0 q s] ++ yw_cat (fun s => cond (yw_ok z n fr nm to J S0 q s) (yw_L (yw_ok z n fr nm to J) 0 (q + 1) (zv_up S0 q s)) []) (23 - s).toNat).length : Nat) ∧ zf_M_ways_l0 most Nn z n nm fr to J f (c + 1) q (zv_up S q s) g1 = some (most, S', g'))) := by
          intro g1 hQ
          by_cases v : c + 1 < most
          · obtain ⟨S', g', hQ2, h⟩ := ihk (23 - s).toNat (by omega) q (c + 1) S0 (zv_up S q s) g1 f (by omega) hq q0 (fun p p0 p1 => by rw [zv_up_n (by omega)]; exact hS p p0 p1) (by rw [zv_up_s]; omega) (by omega) v (by omega)
            have hl : c + (([zv_up S0 q s] ++ yw_cat (fun s => cond (yw_ok z n fr nm to J S0 q s) (yw_L (yw_ok z n fr nm to J) 0 (q + 1) (zv_up S0 q s)) []) (23 - s).toNat).length : Nat) = c + 1 + (yw_cat (fun s => cond (yw_ok z n fr nm to J S0 q s) (yw_L (yw_ok z n fr nm to J) 0 (q + 1) (zv_up S0 q s)) []) (23 - s).toNat).length := by
              rw [List.length_append, List.length_singleton]; omega
            rw [hl]
            refine ⟨S', g', yw_Q_app c0 hQ hQ2, ?_⟩
            rcases h with ⟨h1, h2, f', h3, h4⟩ | ⟨h1, h2⟩
            · exact .inl ⟨h1, fun p p0 p1 => by rw [h2 p p0 p1, zv_up_n (by omega)], f', by omega, h4⟩
            · exact .inr ⟨h1, h2⟩
          · have hl : most ≤ c + (([zv_up S0 q s] ++ yw_cat (fun s => cond (yw_ok z n fr nm to J S0 q s) (yw_L (yw_ok z n fr nm to J) 0 (q + 1) (zv_up S0 q s)) []) (23 - s).toNat).length : Nat) := by
              rw [List.length_append, List.length_singleton]; omega
            refine ⟨zv_up S q s, g1, yw_Q_cut hQ (by simp), .inr ⟨hl, ?_⟩⟩
            obtain ⟨f, rfl⟩ : ∃ q, f = q + 1 := ⟨f - 1, by omega⟩
            show zf_M_ways_l0_b most Nn z n nm fr to J (zf_M_ways_l0 most Nn z n nm fr to J f) (c + 1) q (zv_up S q s) g1 = _
            unfold zf_M_ways_l0_b
            rw [if_neg (show ¬ q < 0 by omega), if_neg v, show c + 1 = most by omega]
        by_cases v : c = 0
        · rw [if_pos v]
          obtain ⟨g1, e2, h2⟩ := yw_note (X := zv_up S q s) hn 8 0 g zi_fu (by omega) (by decide) (by decide) fun i i0 i1 => by omega
          rw [e2, zl_b]
          refine go g1 ⟨fun _ X hX j j0 j1 => ?_, fun h => ?_⟩
          · have : X = zv_up S0 q s := by simpa using hX.symm
            rw [this, h2 j j0 j1, agree j j0 j1]
          · rcases h with h | h
            · exact absurd v h
            · cases h
        · rw [if_neg v]
          exact go g ⟨fun h => absurd h v, fun _ => rfl⟩
  | succ r ihr =>
    intro k
    induction k using Nat.strongRecOn with
    | ind k ihk =>
      intro q c S0 S g f hk hq q0 hS hSq c0 c1 hf
      obtain ⟨f, rfl⟩ : ∃ q, f = q + 1 := ⟨f - 1, by omega⟩
      obtain ⟨s, e1, s0, s1, s2, s3⟩ := yw_next (n := n) (S := S) (fr := fr) (nm := nm) (to := to) (J := J) (q := q) (z := z) (S0 := S0) n0 q0 (by omega) hS 24 (24 - (k : Int)) zi_fu (by omega) (by omega) (by omega) (by decide)
      have body : zf_M_ways_l0 most Nn z n nm fr to J (f + 1) c q S g = zf_M_ways_l0_b most Nn z n nm fr to J (zf_M_ways_l0 most Nn z n nm fr to J f) c q S g := rfl
      rw [body]
      unfold zf_M_ways_l0_b
      rw [if_neg (show ¬ q < 0 by omega), if_pos c1, zl_ci q0 (by omega), hSq, zi_w_id (x := 23 - (k : Int) + 1) (by omega) (by omega), show 23 - (k : Int) + 1 = 24 - (k : Int) by omega, e1, zl_b]
      have hT : 1 ≤ yw_T (r + 1 + 1) k := by show 1 ≤ 1 + k * (1 + yw_T (r + 1) 24); omega
      by_cases w : s = 24
      · have hnil := yw_cat_0 (f := fun s => cond (yw_ok z n fr nm to J S0 q s) (yw_L (yw_ok z n fr nm to J) (r + 1) (q + 1) (zv_up S0 q s)) []) k hk fun t t0 t1 => by show cond (yw_ok z n fr nm to J S0 q t) _ _ = _; rw [s3 t t0 (by omega)]; rfl
        rw [if_pos w, hnil, zi_w_id (x := q - 1) (by omega) (by omega)]
        refine ⟨S, g, yw_Q_0, .inl ⟨by show c + ((0 : Nat) : Int) < most; omega, fun _ _ _ => rfl, f, by omega, ?_⟩⟩
        rw [show c + (([] : List (Int → Int)).length : Int) = c from Int.add_zero c]
      · rw [if_neg w, zi_w_id (x := q + 1) (by omega) (by omega), if_pos (show q + 1 < Nn by omega), zl_ci (show 0 ≤ q + 1 by omega) (by omega)]
        have hcat := yw_cat_s (f := fun s => cond (yw_ok z n fr nm to J S0 q s) (yw_L (yw_ok z n fr nm to J) (r + 1) (q + 1) (zv_up S0 q s)) []) (s := s) (by omega) k hk s0 fun t t0 t1 => by show cond (yw_ok z n fr nm to J S0 q t) _ _ = _; rw [s3 t t0 t1]; rfl
        have hfs : cond (yw_ok z n fr nm to J S0 q s) (yw_L (yw_ok z n fr nm to J) (r + 1) (q + 1) (zv_up S0 q s)) [] = yw_cat (fun s2 => cond (yw_ok z n fr nm to J (zv_up S0 q s) (q + 1) s2) (yw_L (yw_ok z n fr nm to J) r (q + 1 + 1) (zv_up (zv_up S0 q s) (q + 1) s2)) []) 24 := by rw [s2 (by omega)]; rfl
        rw [hfs] at hcat
        rw [hcat]
        have hT2 := yw_T_st (r := r + 1) (k := k) (k2 := (23 - s).toNat) (by omega)
        obtain ⟨S1, g1, hQ, h⟩ := ihr 24 (q + 1) c (zv_up S0 q s) (zv_up (zv_up S q s) (q + 1) (-1)) g f (Nat.le_refl _) (by omega) (by omega) (fun p p0 p1 => by
          rw [zv_up_n (show p ≠ q + 1 by omega)]
          by_cases w : p = q
          · subst w; rw [zv_up_s, zv_up_s]; exact ⟨rfl, by omega, by omega⟩
          · rw [zv_up_n w, zv_up_n w]; exact hS p p0 (by omega)) (by rw [zv_up_s]; decide) c0 c1 (by omega)
        generalize yw_cat (fun s2 => cond (yw_ok z n fr nm to J (zv_up S0 q s) (q + 1) s2) (yw_L (yw_ok z n fr nm to J) r (q + 1 + 1) (zv_up (zv_up S0 q s) (q + 1) s2)) []) 24 = A at hQ h ⊢
        rcases h with ⟨h1, h2, f', h3, h4⟩ | ⟨h1, h2⟩
        · rw [h4, show q + 1 - 1 = q by omega]
          have hS1 : ∀ p, 0 ≤ p → p < q → S1 p = S p := fun p p0 p1 => by rw [h2 p p0 (by omega), zv_up_n (by omega), zv_up_n (by omega)]
          have hS1q : S1 q = s := by rw [h2 q q0 (by omega), zv_up_n (by omega), zv_up_s]
          obtain ⟨S', g', hQ2, h⟩ := ihk (23 - s).toNat (by omega) q (c + A.length) S0 S1 g1 f' (by omega) hq q0 (fun p p0 p1 => by rw [hS1 p p0 p1]; exact hS p p0 p1) (by rw [hS1q]; omega) (by omega) h1 (by omega)
          have hl : c + ((A ++ yw_cat (fun s => cond (yw_ok z n fr nm to J S0 q s) (yw_L (yw_ok z n fr nm to J) (r + 1) (q + 1) (zv_up S0 q s)) []) (23 - s).toNat).length : Nat) = c + A.length + (yw_cat (fun s => cond (yw_ok z n fr nm to J S0 q s) (yw_L (yw_ok z n fr nm to J) (r + 1) (q + 1) (zv_up S0 q s)) []) (23 - s).toNat).length := by
            rw [List.length_append]; omega
          rw [hl]
          refine ⟨S', g', yw_Q_app c0 hQ hQ2, ?_⟩
          rcases h with ⟨k1, k2, f2, k3, k4⟩ | ⟨k1, k2⟩
          · exact .inl ⟨k1, fun p p0 p1 => by rw [k2 p p0 p1, hS1 p p0 p1], f2, by omega, k4⟩
          · exact .inr ⟨k1, k2⟩
        · have hA : A ≠ [] := fun e => by
            rw [e] at h1
            have : most ≤ c + ((0 : Nat) : Int) := h1
            omega
          refine ⟨S1, g1, yw_Q_cut hQ hA, .inr ⟨?_, h2⟩⟩
          rw [List.length_append]; omega
theorem yw_ways (tl : yk_tl n ni nr fr to) (hn1 : n ≠ 0) (hm1 : 1 ≤ most) (hm : most ≤ 10000) {f0 : Int} {g0 g1 g5 : Int → Int} :
    ∃ r Nn nm S' g', zf_M_ways most f0 ni z n g0 g1 fr to J g5 = some (r, Nn, nm, S', g') ∧ yw_nmz ni Nn nm ∧ 1 ≤ Nn ∧ (∃ L : List (Int → Int), L = yw_L (yw_ok z n fr nm to J) Nn.toNat 0 (fun _ => 0) ∧ r = (if (L.length : Int) < most then (L.length : Int) else most) ∧ yw_Q Nn nm 0 L g5 g') := by
  obtain ⟨⟨n0, n1⟩, hft, -, hz, hb, -⟩ := id tl
  obtain ⟨Nn, nm, e1, hn⟩ := yw_names (f0 := f0) (ni := ni) (g := g0)
  obtain ⟨⟨m0, m1⟩, -, -, hcov⟩ := id hn
  have hN : 1 ≤ Nn := by
    obtain ⟨⟨a0, a1⟩, -⟩ := hft 0 (Int.le_refl _) (by omega)
    obtain ⟨j, j0, j1, -⟩ := hcov (fr 0).toNat (by omega) ((hb _).mpr ⟨0, Int.le_refl _, by omega, .inl (by omega)⟩)
    omega
  obtain ⟨r, hr⟩ : ∃ r : Nat, Nn = r + 1 := ⟨(Nn - 1).toNat, by omega⟩
  have hTf : yw_T (r + 1) 24 + 1 < zi_fu := by
    have : ∀ r : Nat, r < 8 → yw_T (r + 1) 24 + 1 < zi_fu := by decide
    exact this r (by omega)
  obtain ⟨S', g', hQ, h⟩ := yw_lev (n := n) (ni := ni) (z := z) (Nn := Nn) (most := most) (fr := fr) (nm := nm) (to := to) (J := J) n1 hn hm r 24 0 0 (fun _ => 0) (zv_up g1 0 (-1)) g5 zi_fu (Nat.le_refl _) (by omega) (Int.le_refl _) (fun p p0 p1 => by omega) (by rw [zv_up_s]; decide) (Int.le_refl _) (by omega) hTf
  have hL : yw_cat (fun s => cond (yw_ok z n fr nm to J (fun _ => 0) 0 s) (yw_L (yw_ok z n fr nm to J) r (0 + 1) (zv_up (fun _ => 0) 0 s)) []) 24 = yw_L (yw_ok z n fr nm to J) Nn.toNat 0 (fun _ => 0) := by
    rw [show Nn.toNat = r + 1 by omega]; rfl
  rw [hL] at hQ h
  have fin : zf_M_ways most f0 ni z n g0 g1 fr to J g5 = (zf_M_ways_l0 most Nn z n nm fr to J zi_fu 0 0 (zv_up g1 0 (-1)) g5).bind fun q19 => (some (q19.1, Nn, nm, q19.2.1, q19.2.2)) := by
    unfold zf_M_ways
    rw [e1, zl_b]
  rw [fin]
  rcases h with ⟨h1, h2, f', h3, h4⟩ | ⟨h1, h2⟩
  · rw [Int.zero_add] at h1 h4
    obtain ⟨f', rfl⟩ : ∃ q, f' = q + 1 := ⟨f' - 1, by omega⟩
    have h5 : zf_M_ways_l0 most Nn z n nm fr to J (f' + 1) ((yw_L (yw_ok z n fr nm to J) Nn.toNat 0 (fun _ => 0)).length : Int) (0 - 1) S' g' = some (((yw_L (yw_ok z n fr nm to J) Nn.toNat 0 (fun _ => 0)).length : Int), S', g') := by
      show zf_M_ways_l0_b most Nn z n nm fr to J (zf_M_ways_l0 most Nn z n nm fr to J f') _ (0 - 1) S' g' = _
      unfold zf_M_ways_l0_b
      rw [if_pos (by decide)]
    rw [h4, h5, zl_b]
    exact ⟨_, Nn, nm, S', g', rfl, hn, hN, _, rfl, by rw [if_pos h1], hQ⟩
  · rw [Int.zero_add] at h1
    rw [h2, zl_b]
    exact ⟨_, Nn, nm, S', g', rfl, hn, hN, _, rfl, by rw [if_neg (by omega)], hQ⟩
end YWL
end
section
/-! Whether a tale can be told: both sides answer; what is called by tales, too. -/
section YWT
variable {L : zLW} {K V kd fr hf to C mk mf mh mt : Int → Int} {nc tS tL sP lP mc : Int} {t h u cl sc sr ch ts n ni p : Int} {co ro br wc wr m gp gl nr tf tt : Int → Int}
theorem yw_cbtX (R : yl_R L K V nc tS tL sP lP kd fr hf to mc C mk mf mh mt) (k : yk_sky t h u cl sc sr ch co ro br wc wr m) (p1 : 0 ≤ p) (p2 : p < 288) {vx vy sh as ho f nn dE : Int} {g S J pa ph may nr tw so : Int → Int} (hc : yv_ca L sP h u co ro br as ho) (hp : yv_cp L lP h u co ro br pa ph) (hs : yw_so so) :
    zh_ok (zf_X_canBeTold p vx vy h u sh t sc sr cl tS as ho nc f sP nn tL lP dE g co ro br kd hf to K S V J pa ph may nr tw so) fun o => yv_ca L sP h u co ro br o.2.2.2.2.1 o.2.2.2.2.2.1 ∧ yv_cp L lP h u co ro br o.2.2.2.2.2.2.2.2.2.2.2.1 o.2.2.2.2.2.2.2.2.2.2.2.2.1 ∧ yw_so o.2.2.2.2.2.2.2.2.2.2.2.2.2.2.2 := by
  unfold zf_X_canBeTold
  rw [ze_X_columnOf p1 p2, zl_b, ze_X_rowOf p1 p2, zl_b]
  obtain ⟨s', as', ho', a', g', S', e1, -, c1⟩ := yx_look (f2 := vx) (f3 := vy) (f6 := sh) (f := f) (g := g) (S := S) (x := p % 24) (y := p / 24) R k (by omega) (by omega) (by omega) (by omega) hc
  rw [e1, zl_b]
  dsimp only
  refine zh_bind zh_bc fun r4 _ => zh_bind zh_bc fun r5 _ => zh_ite (fun _ => zh_ret ⟨c1, hp, hs⟩) fun _ => ?_
  obtain ⟨f', J', g2, pa', ph', S2, e2, -, c2⟩ := yx_draw (s := s') (f := a') (J := J) (g := g') (S := S') (x := p % 24) (y := p / 24) R k hp
  rw [e2, zl_b]
  dsimp only
  exact zh_bind (yw_count hs) fun r8 h8 => zh_ite (fun _ => zh_ret ⟨c1, c2, h8⟩) fun _ => zh_ret ⟨c1, c2, h8⟩
theorem yw_cbtM (R : yl_R L K V nc tS tL sP lP kd fr hf to mc C mk mf mh mt) (k : yk_sky t h u cl sc sr ch co ro br wc wr m) (tl : yk_tl n ni nr tf tt) (hn : n ≠ 0) (p1 : 0 ≤ p) (p2 : p < 288) {f1 f2 : Int} {g S J nA sF fF : Int → Int} :
    zh_ok (zf_M_canBeTold p mc f1 f2 ni n m mk g mh mt C S J nA sF tf tt fF) fun _ => True := by
  unfold zf_M_canBeTold
  obtain ⟨s', g', S', J', e1, -, -⟩ := ym_looks (f1 := f1) (g := g) (S := S) (J := J) (x := p % 24) (y := p / 24) R k (by omega) (by omega) (by omega) (by omega)
  rw [show 24 * (p / 24) + p % 24 = p by omega] at e1
  rw [e1, zl_b]
  dsimp only
  obtain ⟨r, Nn, nm, S2, g2, e2, -⟩ := yw_ways (most := 1) (z := s') (J := J') (f0 := f2) (g0 := nA) (g1 := sF) (g5 := fF) tl hn (by decide) (by decide)
  rw [e2, zl_b]
  exact zh_ite (fun _ => zh_ret trivial) fun _ => zh_ret trivial
/-! matched -/
theorem yw_matchedX (R : yl_R L K V nc tS tL sP lP kd fr hf to mc C mk mf mh mt) (k : yk_sky t h u cl sc sr ch co ro br wc wr m) {x y w f5 f6 f7 f10 f16 f18 f22 f25 : Int} {g0 g1 g9 g11 g12 g13 g14 g15 g16 : Int → Int} (hs : yw_so g16) :
    zh_ok (zf_X_matched x y w n f5 f6 f7 h u f10 t sc sr cl tS f16 nc f18 sP tL lP f22 f25 g0 g1 co ro br kd hf to K g9 V g11 g12 g13 g14 g15 g16) fun o => yw_so o.2.2.2.2.2.2.2.2.2.2.2.2.2.2.2 := by
  unfold zf_X_matched
  rw [ze_X_isPlace, zl_b]
  refine zh_ite (fun _ => zh_ret hs) fun q => ?_
  obtain ⟨x1, x2, y1, y2⟩ := zs_pl_ne q
  rw [ze_X_isWithin, zl_b]
  refine zh_ite (fun _ => zh_ret hs) fun q2 => zh_ite (fun _ => zh_ret hs) fun _ => ?_
  obtain ⟨w1, w2⟩ := zs_in_ne q2
  obtain ⟨f3', s', f14', f16', g0', g1', g9', J, g12', e1, i1, l1⟩ := yx_lad (f3 := f5) (f4 := f6) (f5 := f7) (f8 := f10) (f14 := f16) (f16 := f18) (g0 := g0) (g1 := g1) (g9 := g9) (g11 := g11) (g12 := g12) R k x1 (by omega : x ≤ 23) y1 (by omega : y ≤ 11)
  rw [e1, zl_b]
  dsimp only
  exact zh_ite (fun _ => zh_bind (yw_count hs) fun r hr => zh_ret hr) fun q3 => zh_ite (fun _ => zh_ret hs) fun _ => zh_bind (yw_first hs) fun r hr => zh_ite (fun _ => zh_ret hr) fun _ => zh_cond (zi_ix_of (by omega) (by omega)) (zh_ret hr)
theorem yw_matchedM (R : yl_R L K V nc tS tL sP lP kd fr hf to mc C mk mf mh mt) (k : yk_sky t h u cl sc sr ch co ro br wc wr m) (tl : yk_tl n ni nr tf tt) {x y w f2 f4 : Int} {g2 g6 g7 g8 g9 g12 : Int → Int} :
    zh_ok (zf_M_matched x y w n mc f2 ni f4 m mk g2 mh mt C g6 g7 g8 g9 tf tt g12) fun _ => True := by
  unfold zf_M_matched
  rw [ze_M_isPlace, zl_b]
  refine zh_ite (fun _ => zh_ret trivial) fun q => ?_
  obtain ⟨x1, x2, y1, y2⟩ := zs_pl_ne q
  rw [ze_M_in, zl_b]
  refine zh_ite (fun _ => zh_ret trivial) fun q2 => zh_ite (fun _ => zh_ret trivial) fun hn => ?_
  obtain ⟨w1, w2⟩ := zs_in_ne q2
  obtain ⟨s', g', S', J', e1, -, -⟩ := ym_looks (f1 := f2) (g := g2) (S := g6) (J := g7) (x := x) (y := y) R k (by omega) (by omega) (by omega) (by omega)
  rw [zi_w_id (x := 24 * y) (by omega) (by omega), zi_w_id (x := 24 * y + x) (by omega) (by omega), e1, zl_b]
  dsimp only
  refine zh_ite (fun _ => ?_) fun q3 => ?_
  · obtain ⟨r, Nn, nm, S2, g3, e2, -⟩ := yw_ways (most := 10000) (z := s') (J := J') (f0 := f4) (g0 := g8) (g1 := g9) (g5 := g12) tl hn (by decide) (by decide)
    rw [e2, zl_b]
    exact zh_ret trivial
  · rw [ze_has2 (t := ni) (i := w) (by omega) (by omega), zl_b]
    refine zh_ite (fun _ => zh_ret trivial) fun _ => ?_
    obtain ⟨r, Nn, nm, S2, g3, e2, -⟩ := yw_ways (most := 1) (z := s') (J := J') (f0 := f4) (g0 := g8) (g1 := g9) (g5 := g12) tl hn (by decide) (by decide)
    rw [e2, zl_b]
    exact zh_ite (fun _ => zh_cond (zi_ix_of (by omega) (by omega)) (zh_ret trivial)) fun _ => zh_ret trivial
/-! where -/
theorem yw_whereX (R : yl_R L K V nc tS tL sP lP kd fr hf to mc C mk mf mh mt) (k : yk_sky t h u cl sc sr ch co ro br wc wr m) {w f5 f6 f7 f10 f16 f18 f20 f25 : Int} {g0 g1 g9 g11 g12 g13 g14 g15 g16 : Int → Int} (hs : yw_so g16) :
    zh_ok (zf_X_where w n f5 f6 f7 h u f10 t sc sr cl tS f16 nc f18 sP f20 tL lP f25 g0 g1 co ro br kd hf to K g9 V g11 g12 g13 g14 g15 g16) fun o => yw_so o.2.2.2.2.2.2.2.2.2.2.2.2.2.2.2 := by
  unfold zf_X_where
  rw [ze_X_isWithin, zl_b]
  refine zh_ite (fun _ => zh_ret hs) fun q => zh_ite (fun _ => zh_ret hs) fun _ => ?_
  obtain ⟨g0', e0, h0⟩ := ze_open (f := f5) (g := g0)
  rw [e0, zl_b]
  dsimp only
  refine zh_sum (Q := fun q => match q with
    | .inl a => yw_so a.2.2.2.2.2.2.2.2.2.2.2.2.2.2.2
    | .inr b => yw_so b.2.2.2.2.2.2.2.2.2.2.2.2.2.2.2) (zh_loop (F := fun n i (a : Int × Int × Int × Int × Int × Int × Int × Int × (Int → Int) × (Int → Int) × (Int → Int) × (Int → Int) × (Int → Int) × (Int → Int) × (Int → Int) × (Int → Int)) => zf_X_where_l0 w h u t sc sr cl tS nc sP f20 tL lP co ro br kd hf to K V g14 n a.1 i a.2.1 a.2.2.1 a.2.2.2.1 a.2.2.2.2.1 a.2.2.2.2.2.1 a.2.2.2.2.2.2.1 a.2.2.2.2.2.2.2.1 a.2.2.2.2.2.2.2.2.1 a.2.2.2.2.2.2.2.2.2.1 a.2.2.2.2.2.2.2.2.2.2.1 a.2.2.2.2.2.2.2.2.2.2.2.1 a.2.2.2.2.2.2.2.2.2.2.2.2.1 a.2.2.2.2.2.2.2.2.2.2.2.2.2.1 a.2.2.2.2.2.2.2.2.2.2.2.2.2.2.1 a.2.2.2.2.2.2.2.2.2.2.2.2.2.2.2) (N := 288)
      (I := fun _ a => yv_ca L sP h u co ro br a.2.1 a.2.2.2.2.2.1 ∧ yv_cp L lP h u co ro br a.2.2.2.2.2.2.2.2.1 a.2.2.2.2.2.2.2.2.2.2.2.2.1 ∧ yw_so a.2.2.2.2.2.2.2.2.2.2.2.2.2.2.2) (fun n i a i0 i1 ha kk => ?_) 288 0 (0, 0, f6, f7, f10, f16, f18, f25, g0', g1, g9, g11, g12, g13, g15, g16) zi_fu (by decide) (by decide) (by decide) (by decide) ⟨yv_ca0, yv_cp0 h0, hs⟩) (fun a ha => zh_ite (fun _ => zh_ret ha) fun _ => zh_ret ha) fun b hb => zh_ret hb
  obtain ⟨a1, a2, a3, a4, a5, a6, a7, a8, a9, a10, a11, a12, a13, a14, a15, a16⟩ := a
  obtain ⟨hc, hp, hs⟩ := ha
  show zh_ok (zf_X_where_l0_b w h u t sc sr cl tS nc sP f20 tL lP co ro br kd hf to K V g14 (zf_X_where_l0 w h u t sc sr cl tS nc sP f20 tL lP co ro br kd hf to K V g14 n) a1 i a2 a3 a4 a5 a6 a7 a8 a9 a10 a11 a12 a13 a14 a15 a16) _
  unfold zf_X_where_l0_b
  refine zh_ite (fun hi => ?_) fun _ => zh_ret hs
  rw [zi_w_id (x := i + 1) (by omega) (by omega)]
  have k2 : ∀ b1 b2 b3 b4 b5 b6 b7 b8 b9 b10 b11 b12 b13 b14 b15 b16, yv_ca L sP h u co ro br b2 b6 → yv_cp L lP h u co ro br b9 b13 → yw_so b16 → zh_ok (zf_X_where_l0 w h u t sc sr cl tS nc sP f20 tL lP co ro br kd hf to K V g14 n b1 (i + 1) b2 b3 b4 b5 b6 b7 b8 b9 b10 b11 b12 b13 b14 b15 b16) _ := fun b1 b2 b3 b4 b5 b6 b7 b8 b9 b10 b11 b12 b13 b14 b15 b16 q1 q2 q3 => kk (b1, b2, b3, b4, b5, b6, b7, b8, b9, b10, b11, b12, b13, b14, b15, b16) hi ⟨q1, q2, q3⟩
  exact zh_bind (yw_cbtX R k i0 hi hc hp hs) fun r6 h6 => zh_ite (fun _ => k2 _ _ _ _ _ _ _ _ _ _ _ _ _ _ _ _ h6.1 h6.2.1 h6.2.2) fun _ => zh_ite (fun _ => zh_ret h6.2.2) fun _ => k2 _ _ _ _ _ _ _ _ _ _ _ _ _ _ _ _ h6.1 h6.2.1 h6.2.2
theorem yw_whereM (R : yl_R L K V nc tS tL sP lP kd fr hf to mc C mk mf mh mt) (k : yk_sky t h u cl sc sr ch co ro br wc wr m) (tl : yk_tl n ni nr tf tt) {w f2 f3 : Int} {g2 g6 g7 g8 g9 g12 : Int → Int} :
    zh_ok (zf_M_where w n mc f2 f3 ni m mk g2 mh mt C g6 g7 g8 g9 tf tt g12) fun _ => True := by
  unfold zf_M_where
  rw [ze_M_in, zl_b]
  refine zh_ite (fun _ => zh_ret trivial) fun q => zh_ite (fun _ => zh_ret trivial) fun hn => ?_
  refine zh_bind (Q := fun _ => True) (zh_loop (F := fun f i (a : Int × Int × Int × Int × (Int → Int) × (Int → Int) × (Int → Int) × (Int → Int) × (Int → Int) × (Int → Int)) => zf_M_where_l0 n mc ni m mk mh mt C tf tt f a.1 a.2.1 i a.2.2.1 a.2.2.2.1 a.2.2.2.2.1 a.2.2.2.2.2.1 a.2.2.2.2.2.2.1 a.2.2.2.2.2.2.2.1 a.2.2.2.2.2.2.2.2.1 a.2.2.2.2.2.2.2.2.2) (N := 288) (I := fun _ _ => True) (fun f i a i0 i1 _ kk => ?_) 288 0 (0, -2, f2, f3, g2, g6, g7, g8, g9, g12) zi_fu (by decide) (by decide) (by decide) (by decide) trivial) fun q _ => zh_ite (fun _ => zh_ret trivial) fun _ => zh_ret trivial
  obtain ⟨a1, a2, a3, a4, a5, a6, a7, a8, a9, a10⟩ := a
  show zh_ok (zf_M_where_l0_b n mc ni m mk mh mt C tf tt (zf_M_where_l0 n mc ni m mk mh mt C tf tt f) a1 a2 i a3 a4 a5 a6 a7 a8 a9 a10) _
  unfold zf_M_where_l0_b
  refine zh_ite (fun hi => ?_) fun _ => zh_ret trivial
  rw [zi_w_id (x := i + 1) (by omega) (by omega)]
  refine zh_bind (yw_cbtM R k tl hn i0 hi) fun r5 _ => zh_ite (fun _ => kk (_, _, _, _, _, _, _, _, _, _) hi trivial) fun _ => zh_ite (fun _ => kk (_, _, _, _, _, _, _, _, _, _) hi trivial) fun _ => kk (_, _, _, _, _, _, _, _, _, _) hi trivial
/-! when -/
theorem yw_whenM (R : yl_R L K V nc tS tL sP lP kd fr hf to mc C mk mf mh mt) (k : yk_sky t h u cl sc sr ch co ro br wc wr m) (tl : yk_tl n ni nr tf tt) {x y f2 f3 : Int} {g2 g6 g7 g8 g9 g12 : Int → Int} :
    zh_ok (zf_M_when x y n mc f2 f3 ni m mk g2 mh mt C g6 g7 g8 g9 tf tt g12) fun o => ∀ j, o.2.2.2.1 j = m j := by
  unfold zf_M_when
  rw [ze_M_isPlace, zl_b]
  refine zh_ite (fun _ => zh_ret fun _ => rfl) fun q => zh_ite (fun _ => zh_ret fun _ => rfl) fun hn => ?_
  obtain ⟨x1, x2, y1, y2⟩ := zs_pl_ne q
  refine zh_bind (Q := fun q => ∀ j, j ≠ 128 → q.2.2.2.1 j = m j) (zh_loop (F := fun f i (a : Int × Int × Int × (Int → Int) × (Int → Int) × (Int → Int) × (Int → Int) × (Int → Int) × (Int → Int) × (Int → Int)) => zf_M_when_l0 x y n mc ni mk mh mt C tf tt f a.1 i a.2.1 a.2.2.1 a.2.2.2.1 a.2.2.2.2.1 a.2.2.2.2.2.1 a.2.2.2.2.2.2.1 a.2.2.2.2.2.2.2.1 a.2.2.2.2.2.2.2.2.1 a.2.2.2.2.2.2.2.2.2) (N := 24) (I := fun _ a => ∀ j, j ≠ 128 → a.2.2.2.1 j = m j) (fun f i a i0 i1 ha kk => ?_) 24 0 (0, f2, f3, m, g2, g6, g7, g8, g9, g12) zi_fu (by decide) (by decide) (by decide) (by decide) (fun _ _ => rfl)) fun q hq => zh_ret fun j => ?_
  · obtain ⟨a1, a2, a3, a4, a5, a6, a7, a8, a9, a10⟩ := a
    show zh_ok (zf_M_when_l0_b x y n mc ni mk mh mt C tf tt (zf_M_when_l0 x y n mc ni mk mh mt C tf tt f) a1 i a2 a3 a4 a5 a6 a7 a8 a9 a10) _
    unfold zf_M_when_l0_b
    refine zh_ite (fun hi => ?_) fun _ => zh_ret ha
    have hm : ∀ j, j ≠ 128 → zv_up a4 128 i j = m j := fun j j1 => by rw [zv_up_n j1]; exact ha j j1
    have k2 := yk_hour (h2 := i) (u2 := u) (m2 := zv_up a4 128 i) k i0 (by omega) zv_up_s (by rw [hm 129 (by decide)]; exact k.2.2.1) (fun j j1 _ => hm j j1)
    rw [zi_w_id (x := i + 1) (by omega) (by omega), zi_w_id (x := 24 * y) (by omega) (by omega), zi_w_id (x := 24 * y + x) (by omega) (by omega)]
    exact zh_bind (yw_cbtM R k2 tl hn (by omega) (by omega)) fun r5 _ => zh_ite (fun _ => kk (_, _, _, _, _, _, _, _, _, _) hi hm) fun _ => kk (_, _, _, _, _, _, _, _, _, _) hi hm
  · show zv_up q.2.2.2.1 128 (m 128) j = m j
    by_cases e : j = 128
    · subst e; rw [zv_up_s]
    · rw [zv_up_n e]; exact hq j e
theorem yw_whenX (R : yl_R L K V nc tS tL sP lP kd fr hf to mc C mk mf mh mt) (k : yk_sky t h u cl sc sr ch co ro br wc wr m) {x y f3 f5 f7 f9 f11 f13 f15 f19 f20 f21 f22 f24 f26 f28 f33 : Int} {g1 g3 g5 g7 g9 g10 g11 g16 g18 g19 g20 g21 g22 g23 : Int → Int} (hs : yw_so g23) :
    zh_ok (zf_X_when x y n t f3 h f5 u f7 cl f9 sc f11 sr f13 ch f15 f19 f20 f21 f22 tS f24 nc f26 sP f28 tL lP f33 co g1 ro g3 br g5 wc g7 wr g9 g10 g11 kd hf to K g16 V g18 g19 g20 g21 g22 g23) fun o => yw_so o.2.2.2.2.2.2.2.2.2.2.2.2.2.2.2.2.2.2.2.2.2.2.2.2.2.2.2 := by
  unfold zf_X_when
  rw [ze_X_isPlace, zl_b]
  refine zh_ite (fun _ => zh_ret hs) fun q => zh_ite (fun _ => zh_ret hs) fun _ => ?_
  obtain ⟨x1, x2, y1, y2⟩ := zs_pl_ne q
  unfold zf_Sky_copyFrom
  rw [zl_b]
  dsimp only
  have k2 : yk_sky t h u cl sc sr ch (zv_cpy co g1 24) (zv_cpy ro g3 24) (zv_cpy br g5 24) (zv_cpy wc g7 24) (zv_cpy wr g9 24) m := yk_sky_cg k (fun j j1 j2 => zv_cpy_in j2) (fun j j1 j2 => zv_cpy_in j2) (fun j j1 j2 => zv_cpy_in j2) (fun j j1 j2 => zv_cpy_in j2) (fun j j1 j2 => zv_cpy_in j2) (fun _ _ _ => rfl)
  generalize zv_cpy co g1 24 = co2 at k2 ⊢
  generalize zv_cpy ro g3 24 = ro2 at k2 ⊢
  generalize zv_cpy br g5 24 = br2 at k2 ⊢
  generalize zv_cpy wc g7 24 = wc2 at k2 ⊢
  generalize zv_cpy wr g9 24 = wr2 at k2 ⊢
  refine zh_bind (Q := fun q => yw_so q.2.2.2.2.2.2.2.2.2.2.2.2.2.2.2.2) (zh_loop (F := fun n i (a : Int × Int × Int × Int × Int × Int × Int × Int × Int × (Int → Int) × (Int → Int) × (Int → Int) × (Int → Int) × (Int → Int) × (Int → Int) × (Int → Int) × (Int → Int)) => zf_X_when_l0 x y t u cl sc sr tS nc sP f28 tL lP co2 ro2 br2 kd hf to K V g21 n a.1 i a.2.1 a.2.2.1 a.2.2.2.1 a.2.2.2.2.1 a.2.2.2.2.2.1 a.2.2.2.2.2.2.1 a.2.2.2.2.2.2.2.1 a.2.2.2.2.2.2.2.2.1 a.2.2.2.2.2.2.2.2.2.1 a.2.2.2.2.2.2.2.2.2.2.1 a.2.2.2.2.2.2.2.2.2.2.2.1 a.2.2.2.2.2.2.2.2.2.2.2.2.1 a.2.2.2.2.2.2.2.2.2.2.2.2.2.1 a.2.2.2.2.2.2.2.2.2.2.2.2.2.2.1 a.2.2.2.2.2.2.2.2.2.2.2.2.2.2.2.1 a.2.2.2.2.2.2.2.2.2.2.2.2.2.2.2.2) (N := 24)
      (I := fun _ a => yw_so a.2.2.2.2.2.2.2.2.2.2.2.2.2.2.2.2) (fun n i a i0 i1 ha kk => ?_) 24 0 (0, h, f19, f20, f21, f22, f24, f26, f33, g10, g11, g16, g18, g19, g20, g22, g23) zi_fu (by decide) (by decide) (by decide) (by decide) hs) fun q hq => zh_ret hq
  obtain ⟨a1, a2, a3, a4, a5, a6, a7, a8, a9, a10, a11, a12, a13, a14, a15, a16, a17⟩ := a
  show zh_ok (zf_X_when_l0_b x y t u cl sc sr tS nc sP f28 tL lP co2 ro2 br2 kd hf to K V g21 (zf_X_when_l0 x y t u cl sc sr tS nc sP f28 tL lP co2 ro2 br2 kd hf to K V g21 n) a1 i a2 a3 a4 a5 a6 a7 a8 a9 a10 a11 a12 a13 a14 a15 a16 a17) _
  unfold zf_X_when_l0_b
  refine zh_ite (fun hi => ?_) fun _ => zh_ret ha
  obtain ⟨gA, e0, h0⟩ := ze_open (f := a3) (g := a10)
  rw [e0, zl_b, ze_X_placeOf x1 x2 y1 y2, zl_b, zi_w_id (x := i + 1) (by omega) (by omega)]
  dsimp only
  have k3 := yk_hour (h2 := i) (u2 := u) (m2 := zv_up m 128 i) k2 i0 (by omega) zv_up_s (by rw [zv_up_n (by decide)]; exact k2.2.2.1) (fun j j1 _ => zv_up_n j1)
  have k4 : ∀ b1 b2 b3 b4 b5 b6 b7 b8 b9 b10 b11 b12 b13 b14 b15 b16 b17, yw_so b17 → zh_ok (zf_X_when_l0 x y t u cl sc sr tS nc sP f28 tL lP co2 ro2 br2 kd hf to K V g21 n b1 (i + 1) b2 b3 b4 b5 b6 b7 b8 b9 b10 b11 b12 b13 b14 b15 b16 b17) _ := fun b1 b2 b3 b4 b5 b6 b7 b8 b9 b10 b11 b12 b13 b14 b15 b16 b17 q => kk (b1, b2, b3, b4, b5, b6, b7, b8, b9, b10, b11, b12, b13, b14, b15, b16, b17) hi q
  exact zh_bind (yw_cbtX R k3 (by omega) (by omega) yv_ca0 (yv_cp0 h0) ha) fun r8 h8 => zh_ite (fun _ => k4 _ _ _ _ _ _ _ _ _ _ _ _ _ _ _ _ _ h8.2.2) fun _ => k4 _ _ _ _ _ _ _ _ _ _ _ _ _ _ _ _ _ h8.2.2
end YWT
end
section
/-! The next set with as many bits is a greater one; hidden, both, log: both sides answer. -/
theorem zh_loop2 {α β : Type} {F : Nat → α → Option β} {μ : α → Nat} {I : α → Prop} {P : β → Prop} (hs : ∀ (n : Nat) (a : α), I a → (∀ a', μ a' < μ a → I a' → zh_ok (F n a') P) → zh_ok (F (n + 1) a) P) :
    ∀ (d : Nat) (a : α) (n : Nat), μ a ≤ d → d < n → I a → zh_ok (F n a) P := by
  intro d
  induction d with
  | zero =>
    intro a n e hn h
    obtain ⟨n, rfl⟩ : ∃ q, n = q + 1 := ⟨n - 1, by omega⟩
    exact hs n a h fun a' hlt _ => by omega
  | succ d ih =>
    intro a n e hn h
    obtain ⟨n, rfl⟩ : ∃ q, n = q + 1 := ⟨n - 1, by omega⟩
    exact hs n a h fun a' hlt h' => ih a' n (by omega) (by omega) h'
theorem zw_low {x : Int} (h1 : 0 < x) (h2 : x < 16777216) : ∃ r : Nat, r < 24 ∧ zb x r = true ∧ (∀ j, j < r → zb x j = false) ∧ zi_and x (zi_w (-x)) = ((2 ^ r : Nat) : Int) ∧ ((2 ^ r : Nat) : Int) ≤ x := by
  have hx : z24 x := ⟨by omega, by omega⟩
  have hex : ∃ j, j < 24 ∧ zb x j = true := by
    by_cases q : ∃ j, j < 24 ∧ zb x j = true
    · exact q
    · have := (z24_z hx).mpr fun j hj => by
        cases c : zb x j
        · rfl
        · exact absurd ⟨j, hj, c⟩ q
      omega
  obtain ⟨r, r1, r2, r3⟩ := yn_low 24 hex
  have hand : zi_and x (zi_w (-x)) = zi_shl 1 r := by
    refine z24_ext (z24_and hx) (z24_shl (by omega) (by omega)) fun j hj => ?_
    rw [zb_and, zb_neg hx.1 (by omega) (by omega), zb_shl (by omega) (by omega), Int.toNat_natCast]
    by_cases e : j = r
    · subst e
      rw [r2, decide_eq_true (rfl : j = j)]
      have : ¬ ∃ i, i < j ∧ zb x i = true := fun ⟨i, a, b⟩ => by rw [r3 i a] at b; cases b
      rw [decide_eq_false this]; rfl
    · rw [decide_eq_false e]
      by_cases c : j < r
      · rw [r3 j c, Bool.false_and]
      · rw [decide_eq_true (⟨r, by omega, r2⟩ : ∃ i, i < j ∧ zb x i = true)]
        cases zb x j <;> rfl
  have hs : zi_shl 1 (r : Int) = ((2 ^ r : Nat) : Int) := by
    have := zi_shl1 (i := (r : Int)) (by omega) (by omega)
    rwa [Int.toNat_natCast] at this
  refine ⟨r, r1, r2, r3, hand.trans hs, ?_⟩
  have hb : x.toNat.testBit r = true := by rw [← zb_tb (by omega) (by omega)]; exact r2
  have := Nat.ge_two_pow_of_testBit hb
  omega
theorem zw_gos {α : Type} {x : Int} {k : Int → Option α} {P : α → Prop} (h1 : 0 < x) (h2 : x < 16777216) (h : ∀ v, x < v → v < 67108864 → zh_ok (k v) P) :
    zh_ok (cond (zi_ne (zi_and x (zi_w (-x)))) (zi_let (zi_or (zi_w (x + (zi_and x (zi_w (-x))))) (zi_shr (zi_div (zi_xor x (zi_w (x + (zi_and x (zi_w (-x)))))) (zi_and x (zi_w (-x)))) 2)) k) none) P := by
  obtain ⟨r, r1, -, -, e, le⟩ := zw_low h1 h2
  have hp : 0 < 2 ^ r := Nat.two_pow_pos r
  rw [e]
  generalize 2 ^ r = p at le hp
  refine zh_cond (zi_ne_of (by omega)) ?_
  rw [zi_w_id (x := x + (p : Int)) (by omega) (by omega)]
  show zh_ok (k (zi_or (x + (p : Int)) (zi_shr (zi_div (zi_xor x (x + (p : Int))) (p : Int)) 2))) P
  have hx := zi_xor_nat (a := x) (b := x + p) (by omega) (by omega) (by omega) (by omega)
  have lx : x.toNat ^^^ (x + (p : Int)).toNat < 2 ^ 25 := Nat.xor_lt_two_pow (by omega) (by omega)
  rw [hx]
  generalize x.toNat ^^^ (x + (p : Int)).toNat = a at lx
  rw [zi_div_eq (by omega) (by omega) (by omega) (by omega)]
  have d1 : 0 ≤ (a : Int) / (p : Int) := Int.ediv_nonneg (by omega) (by omega)
  have d2 : (a : Int) / (p : Int) ≤ a := Int.ediv_le_self _ (by omega)
  generalize (a : Int) / (p : Int) = d at d1 d2
  rw [zi_shr_eq (by omega) (by omega) (by decide) (by decide), show (((2 ^ (2 : Int).toNat : Nat)) : Int) = 4 from rfl]
  have s1 : 0 ≤ d / 4 := by omega
  have s2 : d / 4 ≤ d := by omega
  generalize d / 4 = s at s1 s2
  rw [zi_or_nat (by omega) (by omega) s1 (by omega)]
  have l1 : (x + (p : Int)).toNat ≤ (x + (p : Int)).toNat ||| s.toNat := Nat.left_le_or
  have l2 : (x + (p : Int)).toNat ||| s.toNat < 2 ^ 26 := Nat.or_lt_two_pow (by omega) (by omega)
  generalize (x + (p : Int)).toNat ||| s.toNat = v at l1 l2
  exact h v (by omega) (by omega)
section YWH
variable {L : zLW} {K V kd fr hf to C mk mf mh mt : Int → Int} {nc tS tL sP lP mc : Int} {t h u cl sc sr ch ts n ni p : Int} {co ro br wc wr m gp gl nr tf tt : Int → Int}
theorem yw_hiddenX (R : yl_R L K V nc tS tL sP lP kd fr hf to mc C mk mf mh mt) (k : yk_sky t h u cl sc sr ch co ro br wc wr m) {x y w f5 f6 f7 f10 f16 f18 f24 f25 f26 : Int} {g0 g1 g9 g11 g12 g13 g14 g15 g16 : Int → Int} (hs : yw_so g16) :
    zh_ok (zf_X_hidden x y w n f5 f6 f7 h u f10 t sc sr cl tS f16 nc f18 sP tL lP f24 f25 f26 g0 g1 co ro br kd hf to K g9 V g11 g12 g13 g14 g15 g16) fun o => yw_so o.2.2.2.2.2.2.2.2.2.2.2.2.2.2.2.2 := by
  unfold zf_X_hidden
  rw [ze_X_isPlace, zl_b]
  refine zh_ite (fun _ => zh_ret hs) fun q => ?_
  obtain ⟨x1, x2, y1, y2⟩ := zs_pl_ne q
  rw [ze_X_isWithin, zl_b]
  refine zh_ite (fun _ => zh_ret hs) fun q2 => zh_ite (fun _ => zh_ret hs) fun _ => ?_
  obtain ⟨f3', s', f14', f16', g0', g1', g9', J, g12', e1, i1, l1⟩ := yx_lad (f3 := f5) (f4 := f6) (f5 := f7) (f8 := f10) (f14 := f16) (f16 := f18) (g0 := g0) (g1 := g1) (g9 := g9) (g11 := g11) (g12 := g12) R k x1 (by omega : x ≤ 23) y1 (by omega : y ≤ 11)
  rw [e1, zl_b]
  dsimp only
  exact zh_bind (yw_count hs) fun r hr => zh_ite (fun _ => zh_ret hr) fun _ => zh_bind (yw_fewest hr) fun r9 h9 => zh_ite (fun _ => zh_ret h9) fun _ => zh_ite (fun _ => zh_bind zh_bc fun _ _ => zh_ret h9) fun _ => zh_ret h9
theorem yw_leastM (R : yl_R L K V nc tS tL sP lP kd fr hf to mc C mk mf mh mt) (k : yk_sky t h u cl sc sr ch co ro br wc wr m) (tl : yk_tl n ni nr tf tt) (hn : n ≠ 0) (p1 : 0 ≤ p) (p2 : p < 288) {q may : Int} (q1 : 1 ≤ q) (q2 : q ≤ 4) {f1 f2 : Int} {m1 g2 g6 g7 g8 g9 g12 : Int → Int} (hm : ∀ j, m1 j = m j) :
    zh_ok (zf_M_leastClouds p q may mc f1 f2 ni n m1 mk g2 mh mt C g6 g7 g8 g9 tf tt g12) fun o => ∀ j, o.2.2.2.1 j = m j := by
  unfold zf_M_leastClouds
  have hst : zi_w (zi_shl 1 q - 1) = 1 ∨ zi_w (zi_shl 1 q - 1) = 3 ∨ zi_w (zi_shl 1 q - 1) = 7 ∨ zi_w (zi_shl 1 q - 1) = 15 := by
    have : ∀ q : Nat, q < 5 → 1 ≤ q → zi_w (zi_shl 1 (q : Int) - 1) = 1 ∨ zi_w (zi_shl 1 (q : Int) - 1) = 3 ∨ zi_w (zi_shl 1 (q : Int) - 1) = 7 ∨ zi_w (zi_shl 1 (q : Int) - 1) = 15 := by decide +kernel
    have h := this q.toNat (by omega) (by omega)
    rwa [Int.toNat_of_nonneg (by omega)] at h
  have hwas : m1 130 = cl := by rw [hm]; exact k.2.2.2.1.2
  have hcl := k.2.2.2.1.1
  refine zh_sum (Q := fun q => match q with
    | .inl a => ∀ j, a.2.2.1 j = m j
    | .inr b => ∀ j, b.2.2.2.1 j = m j) (zh_loop2 (F := fun f (a : Int × Int × Int × (Int → Int) × (Int → Int) × (Int → Int) × (Int → Int) × (Int → Int) × (Int → Int) × (Int → Int)) => zf_M_leastClouds_l0 p may (m1 130) mc ni n mk mh mt C tf tt f a.1 a.2.1 a.2.2.1 a.2.2.2.1 a.2.2.2.2.1 a.2.2.2.2.2.1 a.2.2.2.2.2.2.1 a.2.2.2.2.2.2.2.1 a.2.2.2.2.2.2.2.2.1 a.2.2.2.2.2.2.2.2.2) (μ := fun a => (16777216 - a.1).toNat)
      (I := fun a => 0 < a.1 ∧ ∀ j, a.2.2.2.1 j = m j) (fun f a ha kk => ?_) 16777216 (zi_w (zi_shl 1 q - 1), f1, f2, m1, g2, g6, g7, g8, g9, g12) zi_fu (by show (16777216 - zi_w (zi_shl 1 q - 1)).toNat ≤ 16777216; omega) (by decide) ⟨by show 0 < zi_w (zi_shl 1 q - 1); omega, hm⟩) (fun a ha => zh_ret ha) fun b hb => zh_ret hb
  obtain ⟨a1, a2, a3, a4, a5, a6, a7, a8, a9, a10⟩ := a
  obtain ⟨ha0, ha⟩ := ha
  show zh_ok (zf_M_leastClouds_l0_b p may (m1 130) mc ni n mk mh mt C tf tt (zf_M_leastClouds_l0 p may (m1 130) mc ni n mk mh mt C tf tt f) a1 a2 a3 a4 a5 a6 a7 a8 a9 a10) _
  unfold zf_M_leastClouds_l0_b
  have ha0 : 0 < a1 := ha0
  have ha : ∀ j, a4 j = m j := ha
  refine zh_ite (fun hi => zh_ite (fun _ => ?_) fun _ => ?_) fun _ => zh_ret ha
  · have k2 := yk_cl2 (k := k) (c2 := zi_or (m1 130) a1) (h2 := ch) (m2 := zv_up a4 130 (zi_or (m1 130) a1)) (by rw [hwas]; exact z24_or hcl ⟨by omega, by omega⟩) k.2.2.2.2.2.2.1.1.1 k.2.2.2.2.2.2.1.1.2 zv_up_s (by rw [zv_up_n (by decide), ha]; exact k.2.2.2.2.2.2.1.2) (fun j j1 _ => by rw [zv_up_n j1, ha])
    have hm2 : ∀ j, zv_up (zv_up a4 130 (zi_or (m1 130) a1)) 130 (m1 130) j = m j := fun j => by
      by_cases e : j = 130
      · subst e; rw [zv_up_s]; exact hm 130
      · rw [zv_up_n e, zv_up_n e, ha]
    refine zh_bind (yw_cbtM R k2 tl hn p1 p2) fun r5 _ => zh_ite (fun _ => zh_ret hm2) fun _ => zw_gos ha0 hi fun v v1 v2 => ?_
    exact kk (_, _, _, _, _, _, _, _, _, _) (by show (16777216 - v).toNat < (16777216 - a1).toNat; omega) ⟨by show 0 < v; omega, hm2⟩
  · refine zw_gos ha0 hi fun v v1 v2 => ?_
    exact kk (_, _, _, _, _, _, _, _, _, _) (by show (16777216 - v).toNat < (16777216 - a1).toNat; omega) ⟨by show 0 < v; omega, ha⟩
theorem yw_hiddenM (R : yl_R L K V nc tS tL sP lP kd fr hf to mc C mk mf mh mt) (k : yk_sky t h u cl sc sr ch co ro br wc wr m) (tl : yk_tl n ni nr tf tt) {x y w f2 f3 : Int} {g2 g6 g7 g8 g9 g12 : Int → Int} :
    zh_ok (zf_M_hidden x y w n mc f2 f3 ni m mk g2 mh mt C g6 g7 g8 g9 tf tt g12) fun o => ∀ j, o.2.2.2.1 j = m j := by
  unfold zf_M_hidden
  rw [ze_M_isPlace, zl_b]
  refine zh_ite (fun _ => zh_ret fun _ => rfl) fun q => ?_
  obtain ⟨x1, x2, y1, y2⟩ := zs_pl_ne q
  rw [ze_M_in, zl_b]
  refine zh_ite (fun _ => zh_ret fun _ => rfl) fun q2 => zh_ite (fun _ => zh_ret fun _ => rfl) fun hn => ?_
  rw [zi_w_id (x := 24 * y) (by omega) (by omega), zi_w_id (x := 24 * y + x) (by omega) (by omega)]
  refine zh_bind (yw_cbtM R k tl hn (by omega) (by omega)) fun r6 _ => zh_ite (fun _ => zh_ret fun _ => rfl) fun _ => zh_bind (Q := fun _ => True) ?_ fun q12 _ => ?_
  · refine zh_loop (F := fun f i (a : Int) => zf_M_hidden_l0 r6.2.1 m f a i) (N := 24) (I := fun _ _ => True) (fun f i a i0 i1 _ kk => ?_) 24 0 0 zi_fu (by decide) (by decide) (by decide) (by decide) trivial
    show zh_ok (zf_M_hidden_l0_b r6.2.1 m (zf_M_hidden_l0 r6.2.1 m f) a i) _
    unfold zf_M_hidden_l0_b
    refine zh_ite (fun hi => ?_) fun _ => zh_ret trivial
    rw [zi_w_id (x := i + 1) (by omega) (by omega), ze_has2 i0 (by omega), zl_b]
    refine zh_ite (fun _ => kk _ hi trivial) fun _ => ?_
    unfold zf_M_standsAt
    rw [zi_w_id (x := 0 + i) (by omega) (by omega)]
    exact zh_bind (zh_cond (zi_ix_of (by omega) (by omega)) (zh_ret (P := fun _ => True) trivial)) fun _ _ => kk _ hi trivial
  · refine zh_sum (Q := fun q => match q with
      | .inl a => ∀ j, a.2.2.1 j = m j
      | .inr b => ∀ j, b.2.2.2.1 j = m j) (zh_loop (F := fun f i (a : Int × Int × (Int → Int) × (Int → Int) × (Int → Int) × (Int → Int) × (Int → Int) × (Int → Int) × (Int → Int)) => zf_M_hidden_l1 w (24 * y + x) q12 n mc ni mk mh mt C tf tt f i a.1 a.2.1 a.2.2.1 a.2.2.2.1 a.2.2.2.2.1 a.2.2.2.2.2.1 a.2.2.2.2.2.2.1 a.2.2.2.2.2.2.2.1 a.2.2.2.2.2.2.2.2) (N := 5)
        (I := fun i a => 1 ≤ i ∧ ∀ j, a.2.2.1 j = m j) (fun f i a i0 i1 ha kk => ?_) 5 1 (_, _, m, _, _, _, _, _, _) zi_fu (by decide) (by decide) (by decide) (by decide) ⟨by decide, fun _ => rfl⟩) (fun a ha => zh_ret ha) fun b hb => zh_ret hb
    obtain ⟨a1, a2, a3, a4, a5, a6, a7, a8, a9⟩ := a
    obtain ⟨ha0, ha⟩ := ha
    show zh_ok (zf_M_hidden_l1_b w (24 * y + x) q12 n mc ni mk mh mt C tf tt (zf_M_hidden_l1 w (24 * y + x) q12 n mc ni mk mh mt C tf tt f) i a1 a2 a3 a4 a5 a6 a7 a8 a9) _
    unfold zf_M_hidden_l1_b
    refine zh_ite (fun _ => zh_ret ha) fun hi => ?_
    rw [zi_w_id (x := i + 1) (by omega) (by omega)]
    refine zh_bind (yw_leastM R k tl hn (by omega) (by omega) ha0 (by omega) ha) fun r14 h14 => zh_ite (fun _ => ?_) fun _ => zh_ite (fun _ => zh_ret h14) fun _ => zh_ret h14
    exact kk (_, _, _, _, _, _, _, _, _) (by omega) ⟨by omega, h14⟩
/-! both -/
theorem yw_bothX (R : yl_R L K V nc tS tL sP lP kd fr hf to mc C mk mf mh mt) (k : yk_sky t h u cl sc sr ch co ro br wc wr m) {x y w f3 f4 f5 f8 f14 f16 f22 f23 f24 f25 f26 f31 f32 : Int} {g0 g1 g9 g11 g12 g13 g14 g15 g16 g17 g18 g19 : Int → Int} (hs : yw_so g19) :
    zh_ok (zf_X_both x y w f3 f4 f5 h u f8 t sc sr cl tS f14 nc f16 sP tL lP f22 f23 f24 f25 f26 n f31 f32 g0 g1 co ro br kd hf to K g9 V g11 g12 g13 g14 g15 g16 g17 g18 g19) fun o => yw_so o.2.2.2.2.2.2.2.2.2.2.2.2.2.2.2.2.2.2.2.2.2.2.2 := by
  unfold zf_X_both
  rw [ze_X_isWithin, zl_b]
  refine zh_ite (fun _ => zh_ret hs) fun q => ?_
  rw [ze_X_isWithin, zl_b]
  refine zh_ite (fun _ => zh_ret hs) fun q2 => ?_
  rw [ze_X_isWithin, zl_b]
  refine zh_ite (fun _ => zh_ret hs) fun q3 => ?_
  obtain ⟨x1, x2⟩ := zs_in_ne q
  obtain ⟨y1, y2⟩ := zs_in_ne q2
  have tail : zh_ok ((zf_X_columnOf x).bind fun r23 => ((zf_X_rowOf x).bind fun r24 => ((zf_X_lookAndDraw r23 r24 f3 f4 f5 h u f8 t sc sr cl tS f14 nc f16 sP tL lP g0 g1 co ro br kd hf to K g9 V g11 g12).bind fun r25 => ((zf_X_columnOf y).bind fun r26 => ((zf_X_rowOf y).bind fun r27 => ((zf_X_lookAndDraw r26 r27 f22 f23 f24 h u f25 t sc sr cl tS f26 nc r25.2.2.2.2.2.1 sP tL lP g13 r25.2.2.2.2.2.2.2.1 co ro br kd hf to K r25.2.2.2.2.2.2.2.2.1 V g14 g15).bind fun r28 => zf_View_keepShared r25.2.2.2.1 r28.2.2.2.1 r25.2.2.2.2.2.2.2.2.2.1 r28.2.2.2.2.2.2.2.2.2.1)))))) fun o => ∀ j : Nat, j < 24 → z24 (o.2 j) := by
    rw [ze_X_columnOf x1 (by omega), zl_b, ze_X_rowOf x1 (by omega), zl_b]
    obtain ⟨f3', s', f14', f16', g0', g1', g9', J, g12', e1, i1, l1⟩ := yx_lad (f3 := f3) (f4 := f4) (f5 := f5) (f8 := f8) (f14 := f14) (f16 := f16) (g0 := g0) (g1 := g1) (g9 := g9) (g11 := g11) (g12 := g12) (x := x % 24) (y := x / 24) R k (by omega) (by omega) (by omega) (by omega)
    rw [e1, zl_b, ze_X_columnOf y1 (by omega), zl_b, ze_X_rowOf y1 (by omega), zl_b]
    dsimp only
    obtain ⟨f3'', s'', f14'', f16'', g0'', g1'', g9'', J2, g12'', e2, i2, l2⟩ := yx_lad (f3 := f22) (f4 := f23) (f5 := f24) (f8 := f25) (f14 := f26) (f16 := f16') (g0 := g13) (g1 := g1') (g9 := g9') (g11 := g14) (g12 := g15) (x := y % 24) (y := y / 24) R k (by omega) (by omega) (by omega) (by omega)
    rw [e2, zl_b]
    dsimp only
    obtain ⟨g2, e3, h3⟩ := yb_keep (f0 := s') (f1 := s'') (g := J) (g1 := J2)
    exact ⟨_, e3, fun j hj => by show z24 (g2 j); rw [h3 j (by omega) (by omega)]; exact z24_and (l1 j hj).1⟩
  obtain ⟨oo, eo, ho⟩ := tail
  have go : ∀ {Z : Type} (F : (Int × Int × Int × Int × Int × Int × (Int → Int) × (Int → Int) × (Int → Int) × (Int → Int) × (Int → Int)) → (Int × Int × Int × Int × Int × Int × (Int → Int) × (Int → Int) × (Int → Int) × (Int → Int) × (Int → Int)) → (Int × (Int → Int)) → Option Z) (P : Z → Prop), (∀ a b c, (∀ j : Nat, j < 24 → z24 (c.2 j)) → zh_ok (F a b c) P) →
      zh_ok ((zf_X_columnOf x).bind fun r23 => ((zf_X_rowOf x).bind fun r24 => ((zf_X_lookAndDraw r23 r24 f3 f4 f5 h u f8 t sc sr cl tS f14 nc f16 sP tL lP g0 g1 co ro br kd hf to K g9 V g11 g12).bind fun r25 => ((zf_X_columnOf y).bind fun r26 => ((zf_X_rowOf y).bind fun r27 => ((zf_X_lookAndDraw r26 r27 f22 f23 f24 h u f25 t sc sr cl tS f26 nc r25.2.2.2.2.2.1 sP tL lP g13 r25.2.2.2.2.2.2.2.1 co ro br kd hf to K r25.2.2.2.2.2.2.2.2.1 V g14 g15).bind fun r28 => ((zf_View_keepShared r25.2.2.2.1 r28.2.2.2.1 r25.2.2.2.2.2.2.2.2.2.1 r28.2.2.2.2.2.2.2.2.2.1).bind fun r29 => F r25 r28 r29))))))) P := by
    intro Z F P hF
    rw [ze_X_columnOf x1 (by omega), zl_b, ze_X_rowOf x1 (by omega), zl_b] at eo ⊢
    obtain ⟨a, ea, eo⟩ := zi_bind eo
    rw [ea, zl_b]
    rw [ze_X_columnOf y1 (by omega), zl_b, ze_X_rowOf y1 (by omega), zl_b] at eo ⊢
    obtain ⟨b, eb, eo⟩ := zi_bind eo
    rw [eb, zl_b, eo, zl_b]
    exact hF a b oo ho
  refine zh_ite (fun _ => zh_ite (fun _ => zh_ret hs) fun _ => ?_) fun _ => ?_
  · refine go _ _ fun a b c hc => zh_ite (fun _ => zh_bind (yw_count hs) fun r hr => zh_ret hr) fun _ => ?_
    obtain ⟨q, eq, -⟩ := yo_lines (G := c.2) (H := c.2) hc (fun _ _ => rfl)
    rw [eq, zl_b]
    exact zh_ret hs
  · refine go _ _ fun a b c hc => ?_
    obtain ⟨q, eq, -⟩ := yo_lines (G := c.2) (H := c.2) hc (fun _ _ => rfl)
    first
      | exact zh_ite (fun _ => zh_ret hs) fun _ => by rw [eq, zl_b]; exact zh_ret hs
      | exact zh_ite (fun _ => zh_bind (yw_count hs) fun r hr => zh_ret hr) fun _ => zh_ite (fun _ => zh_ret hs) fun _ => by rw [eq, zl_b]; exact zh_ret hs
theorem yw_bothM (R : yl_R L K V nc tS tL sP lP kd fr hf to mc C mk mf mh mt) (k : yk_sky t h u cl sc sr ch co ro br wc wr m) (tl : yk_tl n ni nr tf tt) {x y w f1 f3 : Int} {g2 g6 g7 g8 g9 g10 g13 : Int → Int} :
    zh_ok (zf_M_both x y w mc f1 n f3 ni m mk g2 mh mt C g6 g7 g8 g9 g10 tf tt g13) fun _ => True := by
  unfold zf_M_both
  rw [ze_M_in, zl_b]
  refine zh_ite (fun _ => zh_ret trivial) fun q => ?_
  rw [ze_M_in, zl_b]
  refine zh_ite (fun _ => zh_ret trivial) fun q2 => ?_
  rw [ze_M_in, zl_b]
  refine zh_ite (fun _ => zh_ret trivial) fun q3 => ?_
  obtain ⟨x1, x2⟩ := zs_in_ne q
  obtain ⟨y1, y2⟩ := zs_in_ne q2
  obtain ⟨f3', s', f14', f16', g0', g1', g9', J, g12', e1, i1, l1⟩ := yx_lad (f3 := 0) (f4 := 0) (f5 := 0) (f8 := 0) (f14 := 0) (f16 := 0) (g0 := fun _ => 0) (g1 := fun _ => 0) (g9 := fun _ => 0) (g11 := fun _ => 0) (g12 := fun _ => 0) (x := x % 24) (y := x / 24) R k (by omega) (by omega) (by omega) (by omega)
  obtain ⟨f3'', s'', f14'', f16'', g0'', g1'', g9'', J2, g12'', e2, i2, l2⟩ := yx_lad (f3 := 0) (f4 := 0) (f5 := 0) (f8 := 0) (f14 := 0) (f16 := 0) (g0 := fun _ => 0) (g1 := fun _ => 0) (g9 := fun _ => 0) (g11 := fun _ => 0) (g12 := fun _ => 0) (x := y % 24) (y := y / 24) R k (by omega) (by omega) (by omega) (by omega)
  obtain ⟨g2', g6', H, g8', e3, h3⟩ := ym_both (p := x) (q := y) (f1 := f1) (g2 := g2) (g6 := g6) (g7 := g7) (g8 := g8) R k x1 (by omega) y1 (by omega) i1 l1 i2 l2
  rw [e3, zl_b, zl_b]
  dsimp only
  obtain ⟨c, -, ec, -⟩ := yo_lines (G := H) (H := H) (fun j hj => by rw [h3 j (by omega) (by omega)]; exact z24_and (l1 j hj).1) (fun _ _ => rfl)
  refine zh_ite (fun _ => zh_ite (fun _ => zh_ret trivial) fun hn => ?_) fun _ => zh_ite (fun _ => zh_ret trivial) fun _ => ?_
  · obtain ⟨r, Nn, nm, S2, g3, e4, -⟩ := yw_ways (most := 10000) (z := zi_and s' s'') (J := H) (f0 := f3) (g0 := g9) (g1 := g10) (g5 := g13) tl hn (by decide) (by decide)
    rw [e4, zl_b]
    exact zh_ret trivial
  · rw [ec, zl_b]
    exact zh_ret trivial
end YWH
end
section
/-! found, meeting: alike on both sides; alike, known: both sides answer. -/
section YFM
variable {t h u cl sc sr ch ts : Int} {co ro br wc wr m gp gl : Int → Int} {T M : Int → Int}
theorem ze_colNext {i : Int} (i0 : 0 ≤ i) (i1 : i < 24) (c0 : 0 ≤ co i) (c1 : co i ≤ 23) (w0 : -3 ≤ wc i) (w1 : wc i ≤ 3) : zf_Sky_columnNextNight i co wc = some ((co i + wc i) % 24) := by
  unfold zf_Sky_columnNextNight
  rw [zl_ci i0 (by omega)]
  first
    | rw [zi_w_id (x := co i + wc i) (by omega) (by omega), ze_floorMod (by omega) (by omega)]; rfl
    | rw [zl_ci i0 (by omega), zi_w_id (x := co i + wc i) (by omega) (by omega), ze_floorMod (by omega) (by omega)]; rfl
theorem ze_rowNext {i : Int} (i0 : 0 ≤ i) (i1 : i < 24) (c0 : 0 ≤ ro i) (c1 : ro i ≤ 11) (w0 : -3 ≤ wr i) (w1 : wr i ≤ 3) : zf_Sky_rowNextNight i ro wr = some (yg_cl (ro i + wr i)) := by
  unfold zf_Sky_rowNextNight yg_cl
  first
    | rw [zl_ci i0 (by omega), zi_w_id (x := ro i + wr i) (by omega) (by omega), ze_Math_min, zl_b, ze_Math_max, zl_b]
    | rw [zl_ci i0 (by omega), zl_ci i0 (by omega), zi_w_id (x := ro i + wr i) (by omega) (by omega), ze_Math_min, zl_b, ze_Math_max, zl_b]
  congr 1
  (repeat' split) <;> omega
theorem yo_found_l (k : yk_sky t h u cl sc sr ch co ro br wc wr m) (hT : yk_T T M) {m2 co2 ro2 : Int → Int} (k2 : yk_sky t h u cl sc sr ch co2 ro2 br wc wr m2) (e : ∀ i, 0 ≤ i → i < 24 → co2 i = (co i + wc i) % 24 ∧ ro2 i = yg_cl (ro i + wr i)) : ∀ (d : Nat) (i s a : Int) (n n2 : Nat), i + d = 24 → 0 ≤ i → d < n → d < n2 → 0 ≤ a → a ≤ 2 * i →
    ∃ r, zf_X_found_l0 t T co wc ro wr n s a i = some r ∧ zf_M_found_l0 m2 M n2 s a i = some r := by
  obtain ⟨⟨ht, k126⟩, -, -, -, -, -, -, ki⟩ := id k
  obtain ⟨⟨-, j126⟩, -, -, -, -, -, -, kj⟩ := id k2
  have tin : 0 ≤ t ∧ t ≤ 2147483647 := ⟨ht.1, by have := ht.2; omega⟩
  intro d
  induction d with
  | zero =>
    intro i s a n n2 e0 i0 hn hn2 a0 a1
    obtain ⟨n, rfl⟩ : ∃ q, n = q + 1 := ⟨n - 1, by omega⟩
    obtain ⟨n2, rfl⟩ : ∃ q, n2 = q + 1 := ⟨n2 - 1, by omega⟩
    refine ⟨s, ?_, ?_⟩
    · show zf_X_found_l0_b t T co wc ro wr (zf_X_found_l0 t T co wc ro wr n) s a i = _
      unfold zf_X_found_l0_b
      rw [if_neg (by omega)]
    · show zf_M_found_l0_b m2 M (zf_M_found_l0 m2 M n2) s a i = _
      unfold zf_M_found_l0_b
      rw [if_neg (by omega)]
  | succ d ih =>
    intro i s a n n2 e0 i0 hn hn2 a0 a1
    obtain ⟨n, rfl⟩ : ∃ q, n = q + 1 := ⟨n - 1, by omega⟩
    obtain ⟨n2, rfl⟩ : ∃ q, n2 = q + 1 := ⟨n2 - 1, by omega⟩
    have nx := fun s2 a2 (b0 : 0 ≤ a2) (b1 : a2 ≤ 2 * (i + 1)) => ih (i + 1) s2 a2 n n2 (by omega) (by omega) (by omega) (by omega) b0 b1
    show ∃ r, zf_X_found_l0_b t T co wc ro wr (zf_X_found_l0 t T co wc ro wr n) s a i = some r ∧ zf_M_found_l0_b m2 M (zf_M_found_l0 m2 M n2) s a i = some r
    unfold zf_X_found_l0_b zf_M_found_l0_b
    rw [if_pos (by omega), if_pos (by omega), ze_Sky_hasStar tin.1 tin.2, ze_M_isTold (by rw [j126]; exact tin.1) (by rw [j126]; exact tin.2), j126, zl_b, zl_b, zi_w_id (x := i + 1) (by omega) (by omega)]
    by_cases q : zs_has 24 t i = 0
    · rw [if_pos q, if_pos q]
      exact nx s a a0 (by omega)
    rw [if_neg q, if_neg q]
    have hti : zb t i.toNat = true := by
      by_cases hh : zb t i.toNat = true
      · exact hh
      · exact absurd (zs_has0 tin.1 tin.2 hh) q
    obtain ⟨⟨⟨c1, c2⟩, ⟨r1, r2⟩, -, ⟨w1, w2⟩, ⟨v1, v2⟩⟩, -, -⟩ := ki i i0 (by omega)
    obtain ⟨-, -, h3⟩ := kj i i0 (by omega)
    obtain ⟨h3, h4, -⟩ := h3 hti
    obtain ⟨e1, e2⟩ := e i i0 (by omega)
    obtain ⟨T1, -, -⟩ := hT a a0 (by omega)
    obtain ⟨T2, -, -⟩ := hT (a + 1) (by omega) (by omega)
    rw [ze_byteAt a0 (by omega), zl_b, ze_colNext i0 (by omega) c1 c2 w1 w2, zl_b, ze_rowNext i0 (by omega) r1 r2 v1 v2, zi_w_id (x := a + 1) (by omega) (by omega), zi_w_id (x := a + 2) (by omega) (by omega), ze_byteAt (j := a + 1) (by omega) (by omega), zl_b, zl_b, zi_w_id (x := 0 + i) (by omega) (by omega), zi_w_id (x := 24 + i) (by omega) (by omega), Int.zero_add, zl_ci a0 (by omega), zl_ci i0 (by omega), zl_ci (a := a + 1) (by omega) (by omega), zl_ci (a := 24 + i) (by omega) (by omega), T1, T2, h3, h4, e1, e2]
    by_cases x1 : T a = (co i + wc i) % 24
    · rw [if_pos x1, if_pos x1]
      by_cases x2 : T (a + 1) = yg_cl (ro i + wr i)
      · rw [if_pos x2, if_pos x2]
        exact nx s (a + 2) (by omega) (by omega)
      · rw [if_neg x2, if_neg x2]
        exact nx _ (a + 2) (by omega) (by omega)
    · rw [if_neg x1, if_neg x1]
      exact nx _ (a + 2) (by omega) (by omega)
theorem zs_sum_24 {t : Int} (ht : z24 t) : 0 ≤ zs_sum t 24 ∧ zs_sum t 24 ≤ 24 := by
  rw [yn_sum ht.1 (by have := ht.2; omega)]
  exact yn_in 24
theorem yo_found {n n2 : Int} {mA : Int → Int} (k : yk_sky t h u cl sc sr ch co ro br wc wr m) (p : yk_tape n n2 T M) : ∃ r n' n2' m' mA', zf_X_found t n T co wc ro wr = some (r, n') ∧ zf_M_found n2 m mA M = some (r, n2', m', mA') ∧ yk_tape n' n2' T M ∧ ∀ j, 0 ≤ j → j < 422 → m' j = m j := by
  obtain ⟨⟨ht, k126⟩, -⟩ := id k
  obtain ⟨rfl, n0, n1, hT⟩ := id p
  have hs := zs_sum_24 ht
  unfold zf_X_found zf_M_found
  rw [k126]
  by_cases q : t = 0
  · rw [if_pos q, if_pos q]
    exact ⟨_, _, _, _, _, rfl, rfl, p, fun _ _ _ => rfl⟩
  rw [if_neg q, if_neg q, ze_bitCount ht.1 (by have := ht.2; omega), ze_M_bits ht.1 (by have := ht.2; omega), zl_b, zl_b, zi_w_id (x := 2 * zs_sum t 24) (by omega) (by omega)]
  unfold zf_Tape_take
  by_cases c : n2 < 2 * zs_sum t 24
  · rw [if_pos c, zl_b, if_pos rfl, if_pos c]
    exact ⟨_, _, _, _, _, rfl, rfl, p, fun _ _ _ => rfl⟩
  rw [if_neg c, zl_b, if_neg (show ¬ (1 : Int) = 0 by decide), if_neg c]
  obtain ⟨mB, e4, hA⟩ := ze_begins (g0 := m) (g := mA)
  obtain ⟨co2, ro2, m2, -, e5, hm2, k2, e⟩ := yk_walks k
  obtain ⟨r, e6, e7⟩ := yo_found_l k hT k2 e 24 0 0 0 zi_fu zi_fu (by decide) (by decide) (by decide) (by decide) (by decide) (by decide)
  obtain ⟨mC, e8, hB⟩ := ze_again (g0 := mB) (g := m2)
  rw [e4, zl_b, e5, zl_b, e6, zl_b, e7, zl_b, e8, zl_b]
  exact ⟨_, _, _, _, _, rfl, rfl, ⟨rfl, by decide, by decide, hT⟩, fun j j0 j1 => by rw [hB j j0 j1, hA j j0 j1]⟩
theorem yo_meeting {a b w : Int} {h1 q1 h3 fA q2 fB : Int → Int} (z : yk_sea ts gp gl m) : ∃ r h1' q1' h3' fA' q2' fB', zf_X_meeting a b w ts gp h1 q1 gl h3 = some (r, h1', q1', h3') ∧ zf_M_meeting a b w m fA q2 fB = some (r, fA', q2', fB') := by
  obtain ⟨⟨t1, t2, e127, hs, -⟩, hb⟩ := id z
  unfold zf_X_meeting zf_M_meeting
  rw [ze_Sea_hasShip t1 (by omega), ze_M_isShip (by omega) (by omega), e127, zl_b, zl_b]
  by_cases x1 : zs_has 6 ts a = 0
  · rw [if_pos x1, if_pos x1]
    exact ⟨_, _, _, _, _, _, _, rfl, rfl⟩
  rw [if_neg x1, if_neg x1, ze_Sea_hasShip t1 (by omega), ze_M_isShip (by omega) (by omega), e127, zl_b, zl_b]
  by_cases x2 : zs_has 6 ts b = 0
  · rw [if_pos x2, if_pos x2]
    exact ⟨_, _, _, _, _, _, _, rfl, rfl⟩
  rw [if_neg x2, if_neg x2, ze_X_isWithin, ze_M_in, zl_b, zl_b]
  by_cases x3 : zs_in w 0 1 = 0
  · rw [if_pos x3, if_pos x3]
    exact ⟨_, _, _, _, _, _, _, rfl, rfl⟩
  rw [if_neg x3, if_neg x3]
  obtain ⟨w0, w1⟩ := zs_in_ne x3
  obtain ⟨a0, a1, -⟩ := zs_has_ne x1
  obtain ⟨b0, b1, -⟩ := zs_has_ne x2
  obtain ⟨p0, p1⟩ := hb a a0 a1
  obtain ⟨r0, r1⟩ := hb b b0 b1
  rw [zl_ci a0 (by omega), zl_ci b0 (by omega), zi_w_id (x := 120 + a) (by omega) (by omega), zi_w_id (x := 120 + b) (by omega) (by omega), zl_ci (a := 120 + a) (by omega) (by omega), hs a a0 a1]
  obtain ⟨t3, D, Q, E, P, e1, e2, d1⟩ := ym_spread z p0 p1 (g0 := h1) (g1 := q1) (h0 := fA) (h1 := q2)
  obtain ⟨t4, F, Q2, G, P2, e3, e4, d2⟩ := ym_spread z r0 r1 (g0 := h3) (g1 := Q) (h0 := fB) (h1 := P)
  have R1 := ym_R_of d1
  have R2 := ym_R_of d2
  obtain ⟨p', c', e5, e6, hh⟩ := ym_meet_l R1 R2 288 0 (-1) 0 zi_fu (by decide) (by decide) (by decide) (.inl ⟨rfl, rfl, fun i i0 i1 => by omega⟩)
  have eX : zf_Pilot_meetingPlace (gp a) (gp b) h1 q1 gl h3 = some (p', D, Q2, F) := by
    unfold zf_Pilot_meetingPlace
    rw [e1, zl_b, e3, zl_b, e5, zl_b]
  rw [eX, zl_b, e2, zl_b, zl_ci (a := 120 + b) (by omega) (by omega), hs b b0 b1, e4, zl_b, e6, zl_b]
  dsimp only
  rcases hh with ⟨rfl, rfl, hd⟩ | ⟨rfl, v0, v1, v2, v3⟩
  · rw [if_pos rfl, zl_ci (a := 0) (by decide) (by decide), ze_mm, zl_b]
    have : (if G 0 < E 0 then E 0 else G 0) = 1000000000 := by
      have s1 := R1 0 (by decide) (by decide)
      have s2 := R2 0 (by decide) (by decide)
      split <;> omega
    rw [this, if_neg (by decide)]
    exact ⟨_, _, _, _, _, _, _, rfl, rfl⟩
  · rw [if_neg (show ¬ p' = -1 by omega), zl_ci v0 (by omega), ze_mm, zl_b, ze_hoursTo v0 v1, zl_b]
    have s1 := R1 p' v0 v1
    have s2 := R2 p' v0 v1
    have : (if G p' < E p' then E p' else G p') = (if D p' < F p' then F p' else D p') ∧ (if D p' < F p' then F p' else D p') < 1000000000 := by
      constructor
      · split <;> split <;> omega
      · split <;> omega
    rw [this.1, if_pos this.2]
    by_cases x : w = 0
    · rw [if_pos x, if_neg (by omega)]
      exact ⟨_, _, _, _, _, _, _, rfl, rfl⟩
    · rw [if_neg x, if_pos (by omega)]
      exact ⟨_, _, _, _, _, _, _, rfl, rfl⟩
end YFM
end
section
/-! alike, known: both sides answer. -/
section YWP
variable {L : zLW} {K V kd fr hf to C mk mf mh mt : Int → Int} {nc tS tL sP lP mc : Int} {t h u cl sc sr ch : Int} {co ro br wc wr m : Int → Int} {T M : Int → Int}
theorem yw_fill {p s : Int} {g0 : Int → Int} (k : yk_sky t h u cl sc sr ch co ro br wc wr m) (p1 : 0 ≤ p) (p2 : p < 288) : zh_ok (zf_Patches_fillParts_24 s p h g0 co ro br) fun o => 0 ≤ o.1 ∧ o.1 ≤ 24 := by
  obtain ⟨-, ⟨⟨h1, h2⟩, -⟩, -, -, -, -, -, ki⟩ := id k
  refine zh_bind (Q := fun q => 0 ≤ q.1 ∧ q.1 ≤ 24) (zh_loop (F := fun n i (a : Int × (Int → Int)) => zf_Patches_fillParts_24_l0 s p h co ro br n a.1 i a.2) (N := 24) (I := fun _ a => 0 ≤ a.1 ∧ a.1 ≤ 24) (fun n i a i0 i1 ha kk => ?_) 24 0 (0, g0) zi_fu (by decide) (by decide) (by decide) (by decide) ⟨Int.le_refl 0, (by decide : (0 : Int) ≤ 24)⟩) fun q hq => zh_ret hq
  obtain ⟨a1, a2⟩ := a
  obtain ⟨b1, b2⟩ := ha
  have b1 : 0 ≤ a1 := b1
  have b2 : a1 ≤ 24 := b2
  show zh_ok (zf_Patches_fillParts_24_l0_b s p h co ro br (zf_Patches_fillParts_24_l0 s p h co ro br n) a1 i a2) _
  unfold zf_Patches_fillParts_24_l0_b
  refine zh_ite (fun hi => ?_) fun _ => zh_ret ⟨b1, b2⟩
  obtain ⟨⟨⟨c1, c2⟩, -⟩, -⟩ := ki i i0 hi
  have hst := yv_st_in (h := h) (co := co) (i := i)
  have k2 : ∀ x y, 0 ≤ x → x ≤ 24 → zh_ok (zf_Patches_fillParts_24_l0 s p h co ro br n x (i + 1) y) _ := fun x y x1 x2 => kk (x, y) hi ⟨x1, x2⟩
  rw [zi_w_id (x := i + 1) (by omega) (by omega), ze_Sky_standing i0 hi c1 c2 h1 h2, zl_b, show (co i + h) % 24 = yv_st h co i from rfl, ze_X_columnOf p1 p2, zl_b, ze_X_rowOf p1 p2, zi_w_id (x := yv_st h co i - p % 24) (by omega) (by omega), ze_floorMod (by omega) (by omega), zl_b, zl_b, zl_b]
  refine zh_ite (fun _ => k2 _ _ b1 b2) fun _ => zh_ite (fun hlt => ?_) fun _ => k2 _ _ b1 b2
  rw [zi_w_id (x := a1 + 1) (by omega) (by omega)]
  exact zh_ite (fun _ => zh_cond (zi_ix_of i0 (by omega)) (zh_bind (Q := fun _ => True) (zh_ret trivial) fun _ _ => zh_cond (zi_ix_of b1 (by omega)) (k2 _ _ (by omega) (by omega)))) fun _ => zh_cond (zi_ix_of i0 (by omega)) (zh_bind (Q := fun _ => True) (zh_ret trivial) fun _ _ => zh_cond (zi_ix_of b1 (by omega)) (k2 _ _ (by omega) (by omega)))
theorem yw_marks {p s : Int} {g12 g11 : Int → Int} (p1 : 0 ≤ p) (p2 : p < 288) (s1 : 0 ≤ s) (s2 : s ≤ 24) : zh_ok (zf_Patches_lookEverywhere_al_l1 p s g12 zi_fu 0 g11) fun _ => True := by
  refine zh_loop (F := fun n i (a : Int → Int) => zf_Patches_lookEverywhere_al_l1 p s g12 n i a) (N := s) (I := fun _ _ => True) (fun n i a i0 i1 _ kk => ?_) 24 0 g11 zi_fu (by omega) (by decide) s1 (by decide) trivial
  show zh_ok (zf_Patches_lookEverywhere_al_l1_b p s g12 (zf_Patches_lookEverywhere_al_l1 p s g12 n) i a) _
  unfold zf_Patches_lookEverywhere_al_l1_b
  refine zh_ite (fun hi => ?_) fun _ => zh_ret trivial
  rw [zi_w_id (x := i + 1) (by omega) (by omega)]
  exact zh_cond (zi_ix_of p1 (by omega)) (zh_cond (zi_ix_of i0 (by omega)) (kk _ hi trivial))
theorem yw_every (R : yl_R L K V nc tS tL sP lP kd fr hf to mc C mk mf mh mt) (k : yk_sky t h u cl sc sr ch co ro br wc wr m) {f2 f3 f6 f13 f15 : Int} {g0 g8 g10 g11 g12 : Int → Int} :
    zh_ok (zf_Patches_lookEverywhere_al f2 f3 h u f6 t sc sr cl tS 0 f13 nc f15 sP g0 co ro br kd hf to K g8 V g10 g11 g12) fun _ => True := by
  unfold zf_Patches_lookEverywhere_al
  refine zh_bind (Q := fun _ => True) (zh_loop (F := fun n i (a : Int × Int × Int × Int × Int × Int × (Int → Int) × (Int → Int) × (Int → Int) × (Int → Int) × (Int → Int)) => zf_Patches_lookEverywhere_al_l0 h u t sc sr cl tS nc sP co ro br kd hf to K V n i a.1 a.2.1 a.2.2.1 a.2.2.2.1 a.2.2.2.2.1 a.2.2.2.2.2.1 a.2.2.2.2.2.2.1 a.2.2.2.2.2.2.2.1 a.2.2.2.2.2.2.2.2.1 a.2.2.2.2.2.2.2.2.2.1 a.2.2.2.2.2.2.2.2.2.2) (N := 288)
    (I := fun _ a => yv_ca L sP h u co ro br a.2.2.2.1 a.2.2.2.2.1) (fun n i a i0 i1 ha kk => ?_) 288 0 (f2, f3, f6, 0, f13, f15, g0, g8, g10, g11, g12) zi_fu (by decide) (by decide) (by decide) (by decide) yv_ca0) fun q _ => zh_ret trivial
  obtain ⟨a1, a2, a3, a4, a5, a6, a7, a8, a9, a10, a11⟩ := a
  have ha : yv_ca L sP h u co ro br a4 a5 := ha
  show zh_ok (zf_Patches_lookEverywhere_al_l0_b h u t sc sr cl tS nc sP co ro br kd hf to K V (zf_Patches_lookEverywhere_al_l0 h u t sc sr cl tS nc sP co ro br kd hf to K V n) i a1 a2 a3 a4 a5 a6 a7 a8 a9 a10 a11) _
  unfold zf_Patches_lookEverywhere_al_l0_b
  refine zh_ite (fun hi => ?_) fun _ => zh_ret trivial
  obtain ⟨s', as', ho', a', g', S', e1, -, c1⟩ := yx_look (f2 := a1) (f3 := a2) (f6 := a3) (f := a6) (g := a7) (S := a8) (x := i % 24) (y := i / 24) R k (by omega) (by omega) (by omega) (by omega) ha
  rw [ze_X_columnOf i0 hi, zl_b, ze_X_rowOf i0 hi, zl_b, e1, zl_b, zi_w_id (x := i + 1) (by omega) (by omega)]
  dsimp only
  have k2 : ∀ b1 b2 b3 b4 b5 b6 b7 b8 b9 b10 b11, yv_ca L sP h u co ro br b4 b5 → zh_ok (zf_Patches_lookEverywhere_al_l0 h u t sc sr cl tS nc sP co ro br kd hf to K V n (i + 1) b1 b2 b3 b4 b5 b6 b7 b8 b9 b10 b11) _ := fun b1 b2 b3 b4 b5 b6 b7 b8 b9 b10 b11 q => kk (b1, b2, b3, b4, b5, b6, b7, b8, b9, b10, b11) hi q
  exact zh_cond (zi_ix_of i0 (by omega)) (zh_bind (yw_fill k i0 hi) fun r6 h6 => zh_bind (yw_marks i0 hi h6.1 h6.2) fun q _ => k2 _ _ _ _ _ _ _ _ _ _ _ c1)
theorem yw_has2424 {x1 x3 : Int} {g0 g1 : Int → Int} (a1 : x1 ≤ 24) (b0 : 0 ≤ x3) (b1 : x3 ≤ 24) : zh_ok (zf_Patches_hasAll_24_24 x1 x3 g0 g1) fun _ => True := by
  unfold zf_Patches_hasAll_24_24
  refine zh_sum (Q := fun _ => True) (zh_loop (F := fun n i (_ : Unit) => zf_Patches_hasAll_24_24_l0 x1 x3 g0 g1 n i) (N := x3) (I := fun _ _ => True) (fun n i a i0 i1 _ kk => ?_) 24 0 () zi_fu (by omega) (by decide) b0 (by decide) trivial) (fun _ _ => zh_ret trivial) fun _ _ => zh_ret trivial
  show zh_ok (zf_Patches_hasAll_24_24_l0_b x1 x3 g0 g1 (zf_Patches_hasAll_24_24_l0 x1 x3 g0 g1 n) i) _
  unfold zf_Patches_hasAll_24_24_l0_b
  refine zh_ite (fun hi => ?_) fun _ => zh_ret trivial
  rw [zi_w_id (x := i + 1) (by omega) (by omega)]
  refine zh_bind (Q := fun _ => True) (zh_loop (F := fun n j (a : Int) => zf_Patches_hasAll_24_24_l1 x1 i g0 g1 n a j) (N := 24) (I := fun _ _ => True) (fun n j a j0 j1 _ k2 => ?_) 24 0 0 zi_fu (by decide) (by decide) (by decide) (by decide) trivial) fun q _ => zh_ite (fun _ => zh_ret trivial) fun _ => kk () hi trivial
  show zh_ok (zf_Patches_hasAll_24_24_l1_b x1 i g0 g1 (zf_Patches_hasAll_24_24_l1 x1 i g0 g1 n) a j) _
  unfold zf_Patches_hasAll_24_24_l1_b
  refine zh_ite (fun hj => zh_ite (fun _ => ?_) fun _ => zh_ret trivial) fun _ => zh_ret trivial
  rw [zi_w_id (x := j + 1) (by omega) (by omega)]
  exact zh_cond (zi_ix_of j0 (by omega)) (zh_cond (zi_ix_of i0 (by omega)) (zh_ite (fun _ => k2 _ (by omega) trivial) fun _ => k2 _ (by omega) trivial))
theorem yw_has2412 {x1 x3 : Int} {g0 g1 : Int → Int} (a1 : x1 ≤ 24) (b0 : 0 ≤ x3) (b1 : x3 ≤ 12) : zh_ok (zf_Patches_hasAll_24_12 x1 x3 g0 g1) fun _ => True := by
  unfold zf_Patches_hasAll_24_12
  refine zh_sum (Q := fun _ => True) (zh_loop (F := fun n i (_ : Unit) => zf_Patches_hasAll_24_12_l0 x1 x3 g0 g1 n i) (N := x3) (I := fun _ _ => True) (fun n i a i0 i1 _ kk => ?_) 24 0 () zi_fu (by omega) (by decide) b0 (by decide) trivial) (fun _ _ => zh_ret trivial) fun _ _ => zh_ret trivial
  show zh_ok (zf_Patches_hasAll_24_12_l0_b x1 x3 g0 g1 (zf_Patches_hasAll_24_12_l0 x1 x3 g0 g1 n) i) _
  unfold zf_Patches_hasAll_24_12_l0_b
  refine zh_ite (fun hi => ?_) fun _ => zh_ret trivial
  rw [zi_w_id (x := i + 1) (by omega) (by omega)]
  refine zh_bind (Q := fun _ => True) (zh_loop (F := fun n j (a : Int) => zf_Patches_hasAll_24_12_l1 x1 i g0 g1 n a j) (N := 24) (I := fun _ _ => True) (fun n j a j0 j1 _ k2 => ?_) 24 0 0 zi_fu (by decide) (by decide) (by decide) (by decide) trivial) fun q _ => zh_ite (fun _ => zh_ret trivial) fun _ => kk () hi trivial
  show zh_ok (zf_Patches_hasAll_24_12_l1_b x1 i g0 g1 (zf_Patches_hasAll_24_12_l1 x1 i g0 g1 n) a j) _
  unfold zf_Patches_hasAll_24_12_l1_b
  refine zh_ite (fun hj => zh_ite (fun _ => ?_) fun _ => zh_ret trivial) fun _ => zh_ret trivial
  rw [zi_w_id (x := j + 1) (by omega) (by omega)]
  exact zh_cond (zi_ix_of j0 (by omega)) (zh_cond (zi_ix_of i0 (by omega)) (zh_ite (fun _ => k2 _ (by omega) trivial) fun _ => k2 _ (by omega) trivial))
theorem yw_has1224 {x1 x3 : Int} {g0 g1 : Int → Int} (a1 : x1 ≤ 12) (b0 : 0 ≤ x3) (b1 : x3 ≤ 24) : zh_ok (zf_Patches_hasAll_12_24 x1 x3 g0 g1) fun _ => True := by
  unfold zf_Patches_hasAll_12_24
  refine zh_sum (Q := fun _ => True) (zh_loop (F := fun n i (_ : Unit) => zf_Patches_hasAll_12_24_l0 x1 x3 g0 g1 n i) (N := x3) (I := fun _ _ => True) (fun n i a i0 i1 _ kk => ?_) 24 0 () zi_fu (by omega) (by decide) b0 (by decide) trivial) (fun _ _ => zh_ret trivial) fun _ _ => zh_ret trivial
  show zh_ok (zf_Patches_hasAll_12_24_l0_b x1 x3 g0 g1 (zf_Patches_hasAll_12_24_l0 x1 x3 g0 g1 n) i) _
  unfold zf_Patches_hasAll_12_24_l0_b
  refine zh_ite (fun hi => ?_) fun _ => zh_ret trivial
  rw [zi_w_id (x := i + 1) (by omega) (by omega)]
  refine zh_bind (Q := fun _ => True) (zh_loop (F := fun n j (a : Int) => zf_Patches_hasAll_12_24_l1 x1 i g0 g1 n a j) (N := 12) (I := fun _ _ => True) (fun n j a j0 j1 _ k2 => ?_) 24 0 0 zi_fu (by decide) (by decide) (by decide) (by decide) trivial) fun q _ => zh_ite (fun _ => zh_ret trivial) fun _ => kk () hi trivial
  show zh_ok (zf_Patches_hasAll_12_24_l1_b x1 i g0 g1 (zf_Patches_hasAll_12_24_l1 x1 i g0 g1 n) a j) _
  unfold zf_Patches_hasAll_12_24_l1_b
  refine zh_ite (fun hj => zh_ite (fun _ => ?_) fun _ => zh_ret trivial) fun _ => zh_ret trivial
  rw [zi_w_id (x := j + 1) (by omega) (by omega)]
  exact zh_cond (zi_ix_of j0 (by omega)) (zh_cond (zi_ix_of i0 (by omega)) (zh_ite (fun _ => k2 _ (by omega) trivial) fun _ => k2 _ (by omega) trivial))
theorem yw_same (k : yk_sky t h u cl sc sr ch co ro br wc wr m) {p q : Int} {g0 g1 g5 : Int → Int} (p1 : 0 ≤ p) (p2 : p < 288) (q1 : 0 ≤ q) (q2 : q < 288) : zh_ok (zf_Patches_isSame p q h g0 g1 co ro br g5) fun _ => True := by
  unfold zf_Patches_isSame
  exact zh_cond (zi_ix_of p1 (by omega)) (zh_bind (yw_fill k p1 p2) fun r2 h2 => zh_cond (zi_ix_of q1 (by omega)) (zh_bind (yw_fill k q1 q2) fun r4 h4 => zh_bind (yw_has2424 h2.2 h4.1 h4.2) fun r5 _ => zh_ite (fun _ => zh_ret trivial) fun _ => zh_bind (yw_has2424 h4.2 h2.1 h2.2) fun r7 _ => zh_ite (fun _ => zh_ret trivial) fun _ => zh_ret trivial))
theorem yw_alikeTo (k : yk_sky t h u cl sc sr ch co ro br wc wr m) {p q : Int} {g0 g1 g2 g6 : Int → Int} (p1 : 0 ≤ p) (p2 : p < 288) (q1 : 0 ≤ q) (q2 : q ≤ 288) : zh_ok (zf_Patches_alikeTo p q h g0 g1 g2 co ro br g6) fun _ => True := by
  unfold zf_Patches_alikeTo
  refine zh_cond (zi_ix_of p1 (by omega)) (zh_ite (fun _ => zh_ret trivial) fun _ => zh_sum (Q := fun _ => True) (zh_loop (F := fun n i (a : (Int → Int) × (Int → Int)) => zf_Patches_alikeTo_l0 p h g0 g1 co ro br n i a.1 a.2) (N := 288) (I := fun _ _ => True) (fun n i a i0 i1 _ kk => ?_) 288 q (g2, g6) zi_fu (by omega) q1 q2 (by decide) trivial) (fun _ _ => zh_ret trivial) fun _ _ => zh_ret trivial)
  show zh_ok (zf_Patches_alikeTo_l0_b p h g0 g1 co ro br (zf_Patches_alikeTo_l0 p h g0 g1 co ro br n) i a.1 a.2) _
  unfold zf_Patches_alikeTo_l0_b
  refine zh_ite (fun hi => ?_) fun _ => zh_ret trivial
  rw [zi_w_id (x := i + 1) (by omega) (by omega)]
  have k2 : ∀ x y, zh_ok (zf_Patches_alikeTo_l0 p h g0 g1 co ro br n (i + 1) x y) _ := fun x y => kk (x, y) hi trivial
  exact zh_ite (fun _ => k2 _ _) fun _ => zh_cond (zi_ix_of i0 (by omega)) (zh_cond (zi_ix_of p1 (by omega)) (zh_ite (fun _ => zh_bind (yw_same k p1 p2 i0 hi) fun r8 _ => zh_ite (fun _ => k2 _ _) fun _ => zh_ret trivial) fun _ => k2 _ _))
theorem yw_alikeX (R : yl_R L K V nc tS tL sP lP kd fr hf to mc C mk mf mh mt) (k : yk_sky t h u cl sc sr ch co ro br wc wr m) {w f3 f4 f5 f8 f14 f16 : Int} {g0 g1 g9 g11 g12 g13 g14 : Int → Int} :
    zh_ok (zf_X_alike w f3 f4 f5 h u f8 t sc sr cl tS f14 nc f16 sP g0 g1 co ro br kd hf to K g9 V g11 g12 g13 g14) fun _ => True := by
  unfold zf_X_alike
  rw [ze_X_isWithin, zl_b]
  refine zh_ite (fun _ => zh_ret trivial) fun q => ?_
  obtain ⟨g0', e0, h0⟩ := ze_open (f := f3) (g := g0)
  rw [e0, zl_b]
  dsimp only
  refine zh_bind (yw_every R k) fun r4 _ => zh_ite (fun _ => zh_bind (Q := fun _ => True) ?_ fun _ _ => zh_ret trivial) fun _ => zh_bind (Q := fun r => r.1 = -1 ∨ (0 ≤ r.1 ∧ r.1 < 288)) ?_ fun r6 h6 => zh_ite (fun _ => zh_ret trivial) fun hne => zh_ite (fun _ => zh_ret trivial) fun _ => ?_
  · unfold zf_Patches_countAlike
    refine zh_bind (Q := fun _ => True) (zh_loop (F := fun n i (a : Int × (Int → Int) × (Int → Int)) => zf_Patches_countAlike_l0 h r4.2.2.2.2.2.2.2.2.1 r4.2.2.2.2.2.2.2.2.2.1 co ro br n a.1 i a.2.1 a.2.2) (N := 288) (I := fun _ _ => True) (fun n i a i0 i1 _ kk => ?_) 288 0 (0, _, _) zi_fu (by decide) (by decide) (by decide) (by decide) trivial) fun _ _ => zh_ret trivial
    show zh_ok (zf_Patches_countAlike_l0_b h r4.2.2.2.2.2.2.2.2.1 r4.2.2.2.2.2.2.2.2.2.1 co ro br (zf_Patches_countAlike_l0 h r4.2.2.2.2.2.2.2.2.1 r4.2.2.2.2.2.2.2.2.2.1 co ro br n) a.1 i a.2.1 a.2.2) _
    unfold zf_Patches_countAlike_l0_b
    refine zh_ite (fun hi => ?_) fun _ => zh_ret trivial
    rw [zi_w_id (x := i + 1) (by omega) (by omega)]
    have k2 : ∀ b1 b2 b3, zh_ok (zf_Patches_countAlike_l0 h r4.2.2.2.2.2.2.2.2.1 r4.2.2.2.2.2.2.2.2.2.1 co ro br n b1 (i + 1) b2 b3) _ := fun b1 b2 b3 => kk (b1, b2, b3) hi trivial
    exact zh_bind (yw_alikeTo k i0 hi (by decide) (by decide)) fun r _ => zh_ite (fun _ => k2 _ _ _) fun _ => k2 _ _ _
  · unfold zf_Patches_firstAlike
    refine zh_sum (Q := fun q => match q with
      | .inl _ => True
      | .inr b => 0 ≤ b.1 ∧ b.1 < 288) (zh_loop (F := fun n i (a : (Int → Int) × (Int → Int)) => zf_Patches_firstAlike_l0 h r4.2.2.2.2.2.2.2.2.1 r4.2.2.2.2.2.2.2.2.2.1 co ro br n i a.1 a.2) (N := 288) (I := fun _ _ => True) (fun n i a i0 i1 _ kk => ?_) 288 0 (_, _) zi_fu (by decide) (by decide) (by decide) (by decide) trivial) (fun _ _ => zh_ret (.inl rfl)) fun b hb => zh_ret (.inr hb)
    show zh_ok (zf_Patches_firstAlike_l0_b h r4.2.2.2.2.2.2.2.2.1 r4.2.2.2.2.2.2.2.2.2.1 co ro br (zf_Patches_firstAlike_l0 h r4.2.2.2.2.2.2.2.2.1 r4.2.2.2.2.2.2.2.2.2.1 co ro br n) i a.1 a.2) _
    unfold zf_Patches_firstAlike_l0_b
    refine zh_ite (fun hi => ?_) fun _ => zh_ret trivial
    rw [zi_w_id (x := i + 1) (by omega) (by omega)]
    exact zh_bind (yw_alikeTo k i0 hi (by decide) (by decide)) fun r _ => zh_ite (fun _ => kk (_, _) hi trivial) fun _ => zh_ret ⟨i0, hi⟩
  · have h6 := h6.resolve_left hne
    rw [zi_w_id (x := r6.1 + 1) (by omega) (by omega)]
    exact zh_bind (yw_alikeTo k h6.1 h6.2 (by omega) (by omega)) fun r _ => zh_ret trivial
theorem yw_known1 (k : yk_sky t h u cl sc sr ch co ro br wc wr m) {w s x y n : Int} {g0 g4 : Int → Int} (x1 : 0 ≤ x) (x2 : x < 24) (y1 : 0 ≤ y) (y2 : y < 12) (n0 : 0 ≤ n) (n1 : n ≤ 12) : zh_ok (zf_Patches_isKnown w s x y h n g0 co ro br g4) fun _ => True := by
  unfold zf_Patches_isKnown
  rw [ze_X_placeOf x1 x2 y1 y2, zl_b]
  exact zh_bind (yw_fill k (by omega) (by omega)) fun r2 h2 => zh_bind (yw_has2412 h2.2 n0 n1) fun r3 _ => zh_ite (fun _ => zh_ret trivial) fun _ => zh_ite (fun _ => zh_ret trivial) fun _ => zh_bind (yw_has1224 n1 h2.1 h2.2) fun r6 _ => zh_ite (fun _ => zh_ret trivial) fun _ => zh_ret trivial
theorem yw_knownX (R : yl_R L K V nc tS tL sP lP kd fr hf to mc C mk mf mh mt) (k : yk_sky t h u cl sc sr ch co ro br wc wr m) {a w n f4 f5 f6 f7 f10 f16 f18 : Int} {g0 g1 g3 g11 g13 : Int → Int} (n0 : 0 ≤ n) (n1 : n ≤ 220) :
    zh_ok (zf_X_known a w n f4 f5 f6 f7 h u f10 t sc sr cl tS f16 nc f18 sP g0 g1 T g3 co ro br kd hf to K g11 V g13) fun o => o.2.1 = if zs_in a 1 12 = 0 then n else if zs_in w 0 3 = 0 then n else if n < 3 * a then n else 0 := by
  unfold zf_X_known
  rw [ze_X_isWithin, zl_b]
  refine zh_ite (fun q => zh_ret (by rw [if_pos q])) fun q => ?_
  rw [if_neg q, ze_X_isWithin, zl_b]
  obtain ⟨a1, a2⟩ := zs_in_ne q
  refine zh_ite (fun q2 => zh_ret (by rw [if_pos q2])) fun q2 => ?_
  rw [if_neg q2, zi_w_id (x := 3 * a) (by omega) (by omega)]
  unfold zf_Tape_take
  by_cases c : n < 3 * a
  · rw [if_pos c, zl_b, if_pos rfl, if_pos c]
    exact zh_ret rfl
  rw [if_neg c, zl_b, if_neg (show ¬ (1 : Int) = 0 by decide), if_neg c]
  obtain ⟨g0', e0, h0⟩ := ze_open (f := f4) (g := g0)
  rw [e0, zl_b]
  dsimp only
  refine zh_bind (Q := fun r => 0 ≤ r.1 ∧ r.1 ≤ 12) ?_ fun r8 h8 => zh_sum (Q := fun q => match q with
    | .inl _ => True
    | .inr b => b.2.1 = 0) (zh_loop (F := fun n i (a : Int × Int × Int × Int × Int × Int × Int × (Int → Int) × (Int → Int) × (Int → Int)) => zf_X_known_l0 w 0 r8.1 h u t sc sr cl tS nc sP g0' r8.2 co ro br kd hf to K V n a.1 i a.2.1 a.2.2.1 a.2.2.2.1 a.2.2.2.2.1 a.2.2.2.2.2.1 a.2.2.2.2.2.2.1 a.2.2.2.2.2.2.2.1 a.2.2.2.2.2.2.2.2.1 a.2.2.2.2.2.2.2.2.2) (N := 288)
      (I := fun _ a => yv_ca L sP h u co ro br a.2.1 a.2.2.2.2.2.1) (fun n i a i0 i1 ha kk => ?_) 288 0 (0, 0, f6, f7, f10, f16, f18, g3, g11, g13) zi_fu (by decide) (by decide) (by decide) (by decide) yv_ca0) (fun a _ => zh_ite (fun _ => zh_ret rfl) fun _ => zh_ret rfl) fun b hb => zh_ret hb
  · unfold zf_Patches_takeParts
    rw [ze_Math_min, zl_b]
    have hm : (if 12 < a then (12 : Int) else a) = a := if_neg (by omega)
    rw [hm]
    refine zh_bind (Q := fun _ => True) (zh_loop (F := fun n i (g : Int → Int) => zf_Patches_takeParts_l0 a T n i g) (N := a) (I := fun _ _ => True) (fun n i g i0 i1 _ kk => ?_) 12 0 g1 zi_fu (by omega) (by decide) (by omega) (by decide) trivial) fun _ _ => zh_ret ⟨by show 0 ≤ a; omega, by show a ≤ 12; omega⟩
    show zh_ok (zf_Patches_takeParts_l0_b a T (zf_Patches_takeParts_l0 a T n) i g) _
    unfold zf_Patches_takeParts_l0_b
    refine zh_ite (fun hi => ?_) fun _ => zh_ret trivial
    rw [zi_w_id (x := 3 * i) (by omega) (by omega), zi_w_id (x := 3 * i + 1) (by omega) (by omega), zi_w_id (x := 3 * i + 2) (by omega) (by omega), zi_w_id (x := i + 1) (by omega) (by omega), ze_byteAt (by omega) (by omega), zl_b, ze_byteAt (by omega) (by omega), zl_b, ze_byteAt (by omega) (by omega), zl_b]
    exact zh_bind (Q := fun _ => True) (zh_ret trivial) fun _ _ => zh_cond (zi_ix_of i0 (by omega)) (kk _ hi trivial)
  · obtain ⟨a1', a2', a3, a4, a5, a6, a7, a8, a9, a10⟩ := a
    have ha : yv_ca L sP h u co ro br a2' a6 := ha
    show zh_ok (zf_X_known_l0_b w 0 r8.1 h u t sc sr cl tS nc sP g0' r8.2 co ro br kd hf to K V (zf_X_known_l0 w 0 r8.1 h u t sc sr cl tS nc sP g0' r8.2 co ro br kd hf to K V n) a1' i a2' a3 a4 a5 a6 a7 a8 a9 a10) _
    unfold zf_X_known_l0_b
    refine zh_ite (fun hi => ?_) fun _ => zh_ret trivial
    obtain ⟨s', as', ho', a', g', S', e1, -, c1⟩ := yx_look (f2 := a3) (f3 := a4) (f6 := a5) (f := a7) (g := a8) (S := a9) (x := i % 24) (y := i / 24) R k (by omega) (by omega) (by omega) (by omega) ha
    rw [ze_X_columnOf i0 hi, zl_b, ze_X_rowOf i0 hi, zl_b]
    rw [e1, zl_b, zi_w_id (x := i + 1) (by omega) (by omega)]
    dsimp only
    have k2 : ∀ b1 b2 b3 b4 b5 b6 b7 b8 b9 b10, yv_ca L sP h u co ro br b2 b6 → zh_ok (zf_X_known_l0 w 0 r8.1 h u t sc sr cl tS nc sP g0' r8.2 co ro br kd hf to K V n b1 (i + 1) b2 b3 b4 b5 b6 b7 b8 b9 b10) _ := fun b1 b2 b3 b4 b5 b6 b7 b8 b9 b10 q => kk (b1, b2, b3, b4, b5, b6, b7, b8, b9, b10) hi q
    exact zh_ite (fun _ => zh_bind (yw_known1 k (by omega) (by omega) (by omega) (by omega) h8.1 h8.2) fun r14 _ => zh_ite (fun _ => k2 _ _ _ _ _ _ _ _ _ _ c1) fun _ => zh_ite (fun _ => zh_ret rfl) fun _ => k2 _ _ _ _ _ _ _ _ _ _ c1)
      fun _ => zh_bind (yw_known1 k (by omega) (by omega) (by omega) (by omega) h8.1 h8.2) fun r14 _ => zh_ite (fun _ => k2 _ _ _ _ _ _ _ _ _ _ c1) fun _ => zh_ite (fun _ => zh_ret rfl) fun _ => k2 _ _ _ _ _ _ _ _ _ _ c1
end YWP
end
section
/-! alike, known on the reference's side; named: both sides answer. -/
section YWR
variable {L : zLW} {K V kd fr hf to C mk mf mh mt : Int → Int} {nc tS tL sP lP mc : Int} {t h u cl sc sr ch : Int} {co ro br wc wr m : Int → Int} {T M : Int → Int}
theorem ym_seen (R : yl_R L K V nc tS tL sP lP kd fr hf to mc C mk mf mh mt) (k : yk_sky t h u cl sc sr ch co ro br wc wr m) {p : Int} (p1 : 0 ≤ p) (p2 : p < 288) {g S : Int → Int} : ∃ s' g' S', zf_M_seenFrom p mc m mk g mh mt C S = some (s', g', S') ∧ yv_is L tS t h u cl sc sr co ro br (p % 24) (p / 24) s' := by
  obtain ⟨s', g', S', e1, e2⟩ := ym_seenFrom (g := g) (S := S) (x := p % 24) (y := p / 24) R k (by omega) (by omega) (by omega) (by omega)
  rw [show 24 * (p / 24) + p % 24 = p by omega] at e1
  exact ⟨s', g', S', e1, e2⟩
theorem yw_puts24 {x v : Int} {g : Int → Int} (h0 : 0 ≤ x) (h1 : x < 24) : zh_ok (zf_M_puts_24 x v g) fun _ => True := by
  unfold zf_M_puts_24
  refine zh_bind (Q := fun q => 0 ≤ q.1 ∧ q.1 < 24) (zh_loop2 (F := fun n (a : Int × (Int → Int)) => zf_M_puts_24_l0 v n a.1 a.2) (μ := fun a => a.1.toNat) (I := fun a => 0 ≤ a.1 ∧ a.1 < 24) (fun n a ha kk => ?_) 24 (x, g) zi_fu (by show x.toNat ≤ 24; omega) (by decide) ⟨h0, h1⟩) fun q hq => zh_cond (zi_ix_of hq.1 (by have := hq.2; omega)) (zh_ret trivial)
  obtain ⟨a1, a2⟩ := a
  obtain ⟨b1, b2⟩ := ha
  have b1 : 0 ≤ a1 := b1
  have b2 : a1 < 24 := b2
  show zh_ok (zf_M_puts_24_l0_b v (zf_M_puts_24_l0 v n) a1 a2) _
  unfold zf_M_puts_24_l0_b
  refine zh_ite (fun hi => ?_) fun _ => zh_ret ⟨b1, b2⟩
  rw [zi_w_id (x := a1 - 1) (by omega) (by omega)]
  exact zh_cond (zi_ix_of (by omega) (by omega)) (zh_ite (fun _ => zh_cond (zi_ix_of (by omega) (by omega)) (kk (a1 - 1, _) (by show (a1 - 1).toNat < a1.toNat; omega) ⟨by show 0 ≤ a1 - 1; omega, by show a1 - 1 < 24; omega⟩)) fun _ => zh_ret ⟨b1, b2⟩)
theorem yw_puts12 {x v : Int} {g : Int → Int} (h0 : 0 ≤ x) (h1 : x < 12) : zh_ok (zf_M_puts_12 x v g) fun _ => True := by
  unfold zf_M_puts_12
  refine zh_bind (Q := fun q => 0 ≤ q.1 ∧ q.1 < 12) (zh_loop2 (F := fun n (a : Int × (Int → Int)) => zf_M_puts_12_l0 v n a.1 a.2) (μ := fun a => a.1.toNat) (I := fun a => 0 ≤ a.1 ∧ a.1 < 12) (fun n a ha kk => ?_) 24 (x, g) zi_fu (by show x.toNat ≤ 24; omega) (by decide) ⟨h0, h1⟩) fun q hq => zh_cond (zi_ix_of hq.1 (by have := hq.2; omega)) (zh_ret trivial)
  obtain ⟨a1, a2⟩ := a
  obtain ⟨b1, b2⟩ := ha
  have b1 : 0 ≤ a1 := b1
  have b2 : a1 < 12 := b2
  show zh_ok (zf_M_puts_12_l0_b v (zf_M_puts_12_l0 v n) a1 a2) _
  unfold zf_M_puts_12_l0_b
  refine zh_ite (fun hi => ?_) fun _ => zh_ret ⟨b1, b2⟩
  rw [zi_w_id (x := a1 - 1) (by omega) (by omega)]
  exact zh_cond (zi_ix_of (by omega) (by omega)) (zh_ite (fun _ => zh_cond (zi_ix_of (by omega) (by omega)) (kk (a1 - 1, _) (by show (a1 - 1).toNat < a1.toNat; omega) ⟨by show 0 ≤ a1 - 1; omega, by show a1 - 1 < 12; omega⟩)) fun _ => zh_ret ⟨b1, b2⟩)
theorem yw_mpart (k : yk_sky t h u cl sc sr ch co ro br wc wr m) {p i : Int} (p1 : 0 ≤ p) (p2 : p < 288) (i0 : 0 ≤ i) (i1 : i < 24) : zh_ok (zf_M_partOf p i m) fun _ => True := by
  obtain ⟨-, ⟨⟨h1, h2⟩, k128⟩, -, -, -, -, -, ki⟩ := id k
  obtain ⟨-, ⟨⟨c1, c2⟩, -⟩, -⟩ := ki i i0 i1
  unfold zf_M_partOf zf_M_standsAt
  rw [zi_w_id (x := 0 + i) (by omega) (by omega), Int.zero_add, zl_ci i0 (by omega), k128, zi_w_id (x := m i + h) (by omega) (by omega), zi_rem_eq (by omega) (by omega) (by decide) (by decide), zl_b, zi_rem_eq p1 (by omega) (by decide) (by decide), (ze_toRight (a := p % 24) (b := (m i + h) % 24) (by omega) (by omega) (by omega) (by omega)).1, zl_b, zi_w_id (x := 24 + i) (by omega) (by omega), zi_w_id (x := 48 + i) (by omega) (by omega)]
  exact zh_cond (zi_ix_of (by omega) (by omega)) (zh_cond (zi_ix_of (by omega) (by omega)) (zh_ret trivial))
def yw_pm (N : Int) (g : Int → Int) : Prop := ∀ j, 0 ≤ j → j < N → 0 ≤ g j ∧ g j ≤ 24
theorem yw_mpatch (R : yl_R L K V nc tS tL sP lP kd fr hf to mc C mk mf mh mt) (k : yk_sky t h u cl sc sr ch co ro br wc wr m) {p : Int} (p1 : 0 ≤ p) (p2 : p < 288) {g2 g6 g7 g8 g9 : Int → Int} (hp : yw_pm p g8) :
    zh_ok (zf_M_laysPatch p mc m mk g2 mh mt C g6 g7 g8 g9) fun o => yw_pm (p + 1) o.2.2.2.1 := by
  unfold zf_M_laysPatch
  obtain ⟨s', g', S', e1, -⟩ := ym_seen (g := g2) (S := g6) R k p1 p2
  rw [e1, zl_b]
  dsimp only
  refine zh_bind (Q := fun q => 0 ≤ q.1 ∧ q.1 ≤ 24) (zh_loop (F := fun n i (a : Int × (Int → Int)) => zf_M_laysPatch_l0 p s' m n a.1 i a.2) (N := 24) (I := fun i a => 0 ≤ a.1 ∧ a.1 ≤ i) (fun n i a i0 i1 ha kk => ?_) 24 0 (0, g7) zi_fu (by decide) (by decide) (by decide) (by decide) ⟨Int.le_refl 0, Int.le_refl 0⟩) fun q hq => zh_cond (zi_ix_of p1 (by omega)) (zh_bind (Q := fun _ => True) (zh_loop (F := fun n i (a : Int → Int) => zf_M_laysPatch_l1 p q.1 q.2 n i a) (N := q.1) (I := fun _ _ => True) (fun n i a i0 i1 _ kk => ?_) 24 0 g9 zi_fu (by have := hq.2; omega) (by decide) hq.1 (by decide) trivial) fun q2 _ => zh_ret fun j j0 j1 => ?_)
  · obtain ⟨a1, a2⟩ := a
    obtain ⟨b1, b2⟩ := ha
    have b1 : 0 ≤ a1 := b1
    have b2 : a1 ≤ i := b2
    show zh_ok (zf_M_laysPatch_l0_b p s' m (zf_M_laysPatch_l0 p s' m n) a1 i a2) _
    unfold zf_M_laysPatch_l0_b
    refine zh_ite (fun hi => ?_) fun _ => zh_ret ⟨b1, by show a1 ≤ 24; omega⟩
    rw [ze_has2 i0 (by omega), zl_b, zi_w_id (x := i + 1) (by omega) (by omega), zi_w_id (x := a1 + 1) (by omega) (by omega)]
    exact zh_ite (fun _ => kk (a1, a2) hi ⟨b1, by show a1 ≤ i + 1; omega⟩) fun _ => zh_bind (yw_mpart k p1 p2 i0 hi) fun r5 _ => zh_bind (yw_puts24 b1 (by omega)) fun r6 _ => kk (a1 + 1, r6) hi ⟨by show 0 ≤ a1 + 1; omega, by show a1 + 1 ≤ i + 1; omega⟩
  · show zh_ok (zf_M_laysPatch_l1_b p q.1 q.2 (zf_M_laysPatch_l1 p q.1 q.2 n) i a) _
    unfold zf_M_laysPatch_l1_b
    have := hq.2
    refine zh_ite (fun hi => ?_) fun _ => zh_ret trivial
    rw [zi_w_id (x := i + 1) (by omega) (by omega), zi_w_id (x := 24 * p) (by omega) (by omega), zi_w_id (x := 24 * p + i) (by omega) (by omega)]
    exact zh_cond (zi_ix_of i0 (by omega)) (zh_cond (zi_ix_of (by omega) (by omega)) (kk _ hi trivial))
  · show 0 ≤ zv_up g8 p q.1 j ∧ zv_up g8 p q.1 j ≤ 24
    by_cases e : j = p
    · subst e; rw [zv_up_s]; exact hq
    · rw [zv_up_n e]; exact hp j j0 (by omega)
theorem yw_mpatches (R : yl_R L K V nc tS tL sP lP kd fr hf to mc C mk mf mh mt) (k : yk_sky t h u cl sc sr ch co ro br wc wr m) {g2 g6 g7 g8 g9 : Int → Int} :
    zh_ok (zf_M_laysPatches mc m mk g2 mh mt C g6 g7 g8 g9) fun o => yw_pm 288 o.2.2.2.1 := by
  unfold zf_M_laysPatches
  refine zh_bind (Q := fun o => yw_pm 288 o.2.2.2.1) (zh_loop (F := fun n i (a : (Int → Int) × (Int → Int) × (Int → Int) × (Int → Int) × (Int → Int)) => zf_M_laysPatches_l0 mc m mk mh mt C n i a.1 a.2.1 a.2.2.1 a.2.2.2.1 a.2.2.2.2) (N := 288) (I := fun i a => yw_pm i a.2.2.2.1) (fun n i a i0 i1 ha kk => ?_) 288 0 (g2, g6, g7, g8, g9) zi_fu (by decide) (by decide) (by decide) (by decide) (fun j j0 j1 => by omega)) fun q hq => zh_ret hq
  obtain ⟨a1, a2, a3, a4, a5⟩ := a
  show zh_ok (zf_M_laysPatches_l0_b mc m mk mh mt C (zf_M_laysPatches_l0 mc m mk mh mt C n) i a1 a2 a3 a4 a5) _
  unfold zf_M_laysPatches_l0_b
  refine zh_ite (fun hi => ?_) fun hi => ?_
  rotate_left
  · obtain rfl : i = 288 := by omega
    exact zh_ret ha
  rw [zi_w_id (x := i + 1) (by omega) (by omega)]
  exact zh_bind (yw_mpatch R k i0 hi ha) fun r2 h2 => kk (_, _, _, _, _) hi h2
theorem yw_mAlike {p q : Int} {g0 g1 : Int → Int} (hp : yw_pm 288 g0) (p1 : 0 ≤ p) (p2 : p < 288) (q1 : 0 ≤ q) (q2 : q < 288) : zh_ok (zf_M_areAlike p q g0 g1) fun _ => True := by
  unfold zf_M_areAlike
  obtain ⟨a0, a1⟩ := hp p p1 p2
  refine zh_cond (zi_ix_of p1 (by omega)) (zh_cond (zi_ix_of q1 (by omega)) (zh_ite (fun _ => zh_sum (Q := fun _ => True) (zh_loop (F := fun n i (_ : Unit) => zf_M_areAlike_l0 p q g0 g1 n i) (N := g0 p) (I := fun _ _ => True) (fun n i a i0 i1 _ kk => ?_) 24 0 () zi_fu (by omega) (by decide) a0 (by decide) trivial) (fun _ _ => zh_ret trivial) fun _ _ => zh_ret trivial) fun _ => zh_ret trivial))
  show zh_ok (zf_M_areAlike_l0_b p q g0 g1 (zf_M_areAlike_l0 p q g0 g1 n) i) _
  unfold zf_M_areAlike_l0_b
  refine zh_cond (zi_ix_of p1 (by omega)) (zh_ite (fun hi => ?_) fun _ => zh_ret trivial)
  rw [zi_w_id (x := i + 1) (by omega) (by omega), zi_w_id (x := 24 * p) (by omega) (by omega), zi_w_id (x := 24 * p + i) (by omega) (by omega), zi_w_id (x := 24 * q) (by omega) (by omega), zi_w_id (x := 24 * q + i) (by omega) (by omega)]
  exact zh_cond (zi_ix_of (by omega) (by omega)) (zh_cond (zi_ix_of (by omega) (by omega)) (zh_ite (fun _ => kk () hi trivial) fun _ => zh_ret trivial))
theorem yw_mAlikeFrom {p q : Int} {g0 g1 : Int → Int} (hp : yw_pm 288 g0) (p1 : 0 ≤ p) (p2 : p < 288) (q1 : 0 ≤ q) (q2 : q ≤ 288) : zh_ok (zf_M_alikeFrom p q g0 g1) fun _ => True := by
  unfold zf_M_alikeFrom
  refine zh_sum (Q := fun _ => True) (zh_loop (F := fun n i (_ : Unit) => zf_M_alikeFrom_l0 p g0 g1 n i) (N := 288) (I := fun _ _ => True) (fun n i a i0 i1 _ kk => ?_) 288 q () zi_fu (by omega) q1 q2 (by decide) trivial) (fun _ _ => zh_ret trivial) fun _ _ => zh_ret trivial
  show zh_ok (zf_M_alikeFrom_l0_b p g0 g1 (zf_M_alikeFrom_l0 p g0 g1 n) i) _
  unfold zf_M_alikeFrom_l0_b
  refine zh_ite (fun hi => ?_) fun _ => zh_ret trivial
  rw [zi_w_id (x := i + 1) (by omega) (by omega)]
  exact zh_ite (fun _ => kk () hi trivial) fun _ => zh_bind (yw_mAlike hp p1 p2 i0 hi) fun r _ => zh_ite (fun _ => kk () hi trivial) fun _ => zh_ret trivial
theorem yw_alikeM (R : yl_R L K V nc tS tL sP lP kd fr hf to mc C mk mf mh mt) (k : yk_sky t h u cl sc sr ch co ro br wc wr m) {w : Int} {g2 g6 g7 g8 g9 : Int → Int} : zh_ok (zf_M_alike w mc m mk g2 mh mt C g6 g7 g8 g9) fun _ => True := by
  unfold zf_M_alike
  rw [ze_M_in, zl_b]
  refine zh_ite (fun _ => zh_ret trivial) fun _ => zh_bind (yw_mpatches R k) fun r3 h3 => zh_bind (Q := fun q => q.2 = -1 ∨ (0 ≤ q.2 ∧ q.2 < 288)) (zh_loop (F := fun n i (a : Int × Int) => zf_M_alike_l0 r3.2.2.2.1 r3.2.2.2.2 n a.1 a.2 i) (N := 288) (I := fun _ a => a.2 = -1 ∨ (0 ≤ a.2 ∧ a.2 < 288)) (fun n i a i0 i1 ha kk => ?_) 288 0 (0, -1) zi_fu (by decide) (by decide) (by decide) (by decide) (.inl rfl)) fun q hq => zh_ite (fun _ => zh_ret trivial) fun _ => zh_ite (fun _ => zh_ret trivial) fun hne => zh_ite (fun _ => zh_ret trivial) fun _ => ?_
  · show zh_ok (zf_M_alike_l0_b r3.2.2.2.1 r3.2.2.2.2 (zf_M_alike_l0 r3.2.2.2.1 r3.2.2.2.2 n) a.1 a.2 i) _
    unfold zf_M_alike_l0_b
    refine zh_ite (fun hi => ?_) fun _ => zh_ret ha
    rw [zi_w_id (x := i + 1) (by omega) (by omega)]
    exact zh_cond (zi_ix_of i0 (by omega)) (zh_ite (fun _ => kk (_, _) hi ha) fun _ => zh_bind (yw_mAlikeFrom h3 i0 hi (by decide) (by decide)) fun r7 _ => zh_ite (fun _ => kk (_, _) hi ha) fun _ => zh_ite (fun _ => kk (_, _) hi (.inr ⟨i0, hi⟩)) fun _ => kk (_, _) hi ha)
  · have hq := hq.resolve_left hne
    rw [zi_w_id (x := q.2 + 1) (by omega) (by omega)]
    exact zh_bind (yw_mAlikeFrom h3 hq.1 hq.2 (by omega) (by omega)) fun r _ => zh_ret trivial
theorem yw_mHas {p n : Int} {g0 g1 g2 : Int → Int} (hp : yw_pm 288 g0) (p1 : 0 ≤ p) (p2 : p < 288) (n0 : 0 ≤ n) (n1 : n ≤ 12) : zh_ok (zf_M_hasParts p n g0 g1 g2) fun _ => True := by
  unfold zf_M_hasParts
  obtain ⟨a0, a1⟩ := hp p p1 p2
  refine zh_sum (Q := fun _ => True) (zh_loop (F := fun f i (a : Int) => zf_M_hasParts_l0 p n g0 g1 g2 f a i) (N := n) (I := fun _ a => 0 ≤ a ∧ a ≤ g0 p) (fun f i a i0 i1 ha kk => ?_) 24 0 0 zi_fu (by omega) (by decide) n0 (by decide) ⟨Int.le_refl 0, a0⟩) (fun _ _ => zh_ret trivial) fun _ _ => zh_ret trivial
  show zh_ok (zf_M_hasParts_l0_b p n g0 g1 g2 (zf_M_hasParts_l0 p n g0 g1 g2 f) a i) _
  unfold zf_M_hasParts_l0_b
  refine zh_ite (fun hi => ?_) fun _ => zh_ret trivial
  refine zh_bind (Q := fun q => 0 ≤ q ∧ q ≤ g0 p) (zh_loop (F := fun f j (_ : Unit) => zf_M_hasParts_l1 p i g0 g1 g2 f j) (N := g0 p) (I := fun _ _ => True) (fun f j _ j0 j1 _ k2 => ?_) 24 a () zi_fu (by omega) ha.1 ha.2 (by decide) trivial) fun q hq => ?_
  · show zh_ok (zf_M_hasParts_l1_b p i g0 g1 g2 (zf_M_hasParts_l1 p i g0 g1 g2 f) j) _
    unfold zf_M_hasParts_l1_b
    refine zh_cond (zi_ix_of p1 (by omega)) (zh_ite (fun hj => ?_) fun _ => zh_ret ⟨j0, j1⟩)
    rw [zi_w_id (x := j + 1) (by omega) (by omega), zi_w_id (x := 24 * p) (by omega) (by omega), zi_w_id (x := 24 * p + j) (by omega) (by omega)]
    exact zh_cond (zi_ix_of (by omega) (by omega)) (zh_cond (zi_ix_of i0 (by omega)) (zh_ite (fun _ => k2 () hj trivial) fun _ => zh_ret ⟨j0, j1⟩))
  · obtain ⟨q0, q1⟩ := hq
    rw [zi_w_id (x := i + 1) (by omega) (by omega), zi_w_id (x := q + 1) (by omega) (by omega), zi_w_id (x := 24 * p) (by omega) (by omega), zi_w_id (x := 24 * p + q) (by omega) (by omega)]
    refine zh_cond (zi_ix_of p1 (by omega)) (zh_ite (fun _ => zh_ret trivial) fun hne => zh_cond (zi_ix_of (by omega) (by omega)) (zh_cond (zi_ix_of i0 (by omega)) (zh_ite (fun _ => kk (q + 1) hi ⟨by omega, by omega⟩) fun _ => zh_ret trivial)))
theorem yw_knownM (R : yl_R L K V nc tS tL sP lP kd fr hf to mc C mk mf mh mt) (k : yk_sky t h u cl sc sr ch co ro br wc wr m) {a w n : Int} {g1 g4 g8 g9 g10 g11 : Int → Int} (n0 : 0 ≤ n) (n1 : n ≤ 220) :
    zh_ok (zf_M_known a w n mc M g1 m mk g4 mh mt C g8 g9 g10 g11) fun o => o.2.1 = if zs_in a 1 12 = 0 then n else if zs_in w 0 3 = 0 then n else if n < 3 * a then n else 0 := by
  unfold zf_M_known
  rw [ze_M_in, zl_b]
  refine zh_ite (fun q => zh_ret (by rw [if_pos q])) fun q => ?_
  rw [if_neg q, ze_M_in, zl_b]
  obtain ⟨a1, a2⟩ := zs_in_ne q
  refine zh_ite (fun q2 => zh_ret (by rw [if_pos q2])) fun q2 => ?_
  rw [if_neg q2, zi_w_id (x := 3 * a) (by omega) (by omega)]
  refine zh_ite (fun c => zh_ret (by rw [if_pos c])) fun c => ?_
  rw [if_neg c]
  refine zh_bind (Q := fun _ => True) (zh_loop (F := fun f i (g : Int → Int) => zf_M_known_l0 a M f i g) (N := a) (I := fun _ _ => True) (fun f i g i0 i1 _ kk => ?_) 12 0 g1 zi_fu (by omega) (by decide) (by omega) (by decide) trivial) fun q17 _ => zh_bind (yw_mpatches R k) fun r18 h18 => zh_bind (Q := fun _ => True) (zh_loop (F := fun f i (b : Int × Int) => zf_M_known_l1 a w q17 r18.2.2.2.1 r18.2.2.2.2 f b.1 b.2 i) (N := 288) (I := fun _ _ => True) (fun f i b i0 i1 _ kk => ?_) 288 0 (0, -2) zi_fu (by decide) (by decide) (by decide) (by decide) trivial) fun _ _ => zh_ite (fun _ => zh_ret rfl) fun _ => zh_ret rfl
  · show zh_ok (zf_M_known_l0_b a M (zf_M_known_l0 a M f) i g) _
    unfold zf_M_known_l0_b
    refine zh_ite (fun hi => ?_) fun _ => zh_ret trivial
    rw [zi_w_id (x := 3 * i) (by omega) (by omega), zi_w_id (x := 3 * i + 1) (by omega) (by omega), zi_w_id (x := 3 * i + 2) (by omega) (by omega), zi_w_id (x := i + 1) (by omega) (by omega)]
    exact zh_cond (zi_ix_of (by omega) (by omega)) (zh_cond (zi_ix_of (by omega) (by omega)) (zh_cond (zi_ix_of (by omega) (by omega)) (zh_ite (fun _ => zh_bind (yw_puts12 i0 (by omega)) fun r _ => kk r hi trivial) fun _ => zh_ite (fun _ => zh_bind (yw_puts12 i0 (by omega)) fun r _ => kk r hi trivial) fun _ => zh_ite (fun _ => zh_bind (yw_puts12 i0 (by omega)) fun r _ => kk r hi trivial) fun _ => zh_bind (yw_puts12 i0 (by omega)) fun r _ => kk r hi trivial)))
  · show zh_ok (zf_M_known_l1_b a w q17 r18.2.2.2.1 r18.2.2.2.2 (zf_M_known_l1 a w q17 r18.2.2.2.1 r18.2.2.2.2 f) b.1 b.2 i) _
    unfold zf_M_known_l1_b
    refine zh_ite (fun hi => ?_) fun _ => zh_ret trivial
    rw [zi_w_id (x := i + 1) (by omega) (by omega)]
    have k2 : ∀ x y, zh_ok (zf_M_known_l1 a w q17 r18.2.2.2.1 r18.2.2.2.2 f x y (i + 1)) _ := fun x y => kk (x, y) hi trivial
    exact zh_bind (yw_mHas h18 i0 hi (by omega) (by omega)) fun r _ => zh_ite (fun _ => k2 _ _) fun _ => zh_ite (fun _ => zh_cond (zi_ix_of i0 (by omega)) (zh_ite (fun _ => zh_ite (fun _ => k2 _ _) fun _ => k2 _ _) fun _ => k2 _ _)) fun _ => zh_ite (fun _ => k2 _ _) fun _ => k2 _ _
end YWR
end
section
/-! sold: alike on both sides. -/
def ysC (w hv : Int → Int) (W : Int → Int) (i c : Int) : Prop := hv i ≤ c ∧ W c < W (c - hv i) + w i
def ysW (w hv : Int → Int) : Nat → Int → Int
  | 0, _ => 0
  | i + 1, c => if hv i ≤ c ∧ ysW w hv i c < ysW w hv i (c - hv i) + w i then ysW w hv i (c - hv i) + w i else ysW w hv i c
def ysB (w hv : Int → Int) : Nat → Int → Int
  | 0, _ => 0
  | i + 1, c => if hv i ≤ c ∧ ysW w hv i c < ysW w hv i (c - hv i) + w i then zi_or (ysB w hv i (c - hv i)) (zi_shl 1 i) else ysB w hv i c
def ysV (w hv : Int → Int) : Nat → Int → Int
  | 0, _ => 0
  | i + 1, c => if hv i ≤ c ∧ ysW w hv i c < ysW w hv i (c - hv i) + w i then ysV w hv i (c - hv i) + hv i else ysV w hv i c
def ysS (f : Int → Int) (b : Int) : Nat → Int
  | 0 => 0
  | n + 1 => ysS f b n + (if zb b n = true then f n else 0)
def ysR (w hv : Int → Int) : Prop := ∀ i, 0 ≤ i → i < 24 → (0 ≤ w i ∧ w i ≤ 999) ∧ (0 ≤ hv i ∧ hv i ≤ 99)
section YSO
variable {w hv : Int → Int}
theorem ysW_in (h : ysR w hv) : ∀ (i : Nat) (c : Int), i ≤ 24 → 0 ≤ ysW w hv i c ∧ ysW w hv i c ≤ 999 * i
  | 0, _, _ => ⟨Int.le_refl 0, Int.le_refl 0⟩
  | i + 1, c, hi => by
    obtain ⟨a1, a2⟩ := ysW_in h i c (by omega)
    obtain ⟨b1, b2⟩ := ysW_in h i (c - hv i) (by omega)
    obtain ⟨⟨c1, c2⟩, -⟩ := h i (by omega) (by omega)
    show 0 ≤ (if hv i ≤ c ∧ ysW w hv i c < ysW w hv i (c - hv i) + w i then ysW w hv i (c - hv i) + w i else ysW w hv i c) ∧ (if hv i ≤ c ∧ ysW w hv i c < ysW w hv i (c - hv i) + w i then ysW w hv i (c - hv i) + w i else ysW w hv i c) ≤ 999 * ((i + 1 : Nat) : Int)
    split <;> omega
theorem ysW_mono (h : ysR w hv) : ∀ (i : Nat) (c d : Int), i ≤ 24 → c ≤ d → ysW w hv i c ≤ ysW w hv i d
  | 0, _, _, _, _ => Int.le_refl 0
  | i + 1, c, d, hi, hcd => by
    have a := ysW_mono h i c d (by omega) hcd
    have b := ysW_mono h i (c - hv i) (d - hv i) (by omega) (by omega)
    show (if hv i ≤ c ∧ ysW w hv i c < ysW w hv i (c - hv i) + w i then ysW w hv i (c - hv i) + w i else ysW w hv i c) ≤ (if hv i ≤ d ∧ ysW w hv i d < ysW w hv i (d - hv i) + w i then ysW w hv i (d - hv i) + w i else ysW w hv i d)
    split <;> split <;> omega
theorem ysB_in : ∀ (i : Nat) (c : Int), i ≤ 24 → z24 (ysB w hv i c) ∧ ∀ j : Nat, i ≤ j → zb (ysB w hv i c) j = false
  | 0, _, _ => ⟨z24_0, fun _ _ => zb_0⟩
  | i + 1, c, hi => by
    show z24 (if hv i ≤ c ∧ ysW w hv i c < ysW w hv i (c - hv i) + w i then zi_or (ysB w hv i (c - hv i)) (zi_shl 1 i) else ysB w hv i c) ∧ ∀ j : Nat, i + 1 ≤ j → zb (if hv i ≤ c ∧ ysW w hv i c < ysW w hv i (c - hv i) + w i then zi_or (ysB w hv i (c - hv i)) (zi_shl 1 i) else ysB w hv i c) j = false
    split
    · obtain ⟨a1, a2⟩ := ysB_in i (c - hv i) (by omega)
      refine ⟨z24_or a1 (z24_shl (by omega) (by omega)), fun j hj => ?_⟩
      rw [zb_or, a2 j (by omega), zb_shl (by omega) (by omega), Int.toNat_natCast, decide_eq_false (by omega)]; rfl
    · obtain ⟨a1, a2⟩ := ysB_in i c (by omega)
      exact ⟨a1, fun j hj => a2 j (by omega)⟩
theorem ysV_in (h : ysR w hv) : ∀ (i : Nat) (c : Int), i ≤ 24 → 0 ≤ c → 0 ≤ ysV w hv i c ∧ ysV w hv i c ≤ c
  | 0, _, _, h0 => ⟨Int.le_refl 0, h0⟩
  | i + 1, c, hi, h0 => by
    obtain ⟨-, c1, c2⟩ := h i (by omega) (by omega)
    show 0 ≤ (if hv i ≤ c ∧ ysW w hv i c < ysW w hv i (c - hv i) + w i then ysV w hv i (c - hv i) + hv i else ysV w hv i c) ∧ (if hv i ≤ c ∧ ysW w hv i c < ysW w hv i (c - hv i) + w i then ysV w hv i (c - hv i) + hv i else ysV w hv i c) ≤ c
    split
    · rename_i q
      have := ysV_in h i (c - hv i) (by omega) (by omega)
      omega
    · exact ysV_in h i c (by omega) h0
theorem ysS_eq {f : Int → Int} {a b : Int} : ∀ n : Nat, (∀ j, j < n → zb a j = zb b j) → ysS f a n = ysS f b n
  | 0, _ => rfl
  | n + 1, h => by
    show ysS f a n + (if zb a n = true then f n else 0) = ysS f b n + (if zb b n = true then f n else 0)
    rw [ysS_eq n fun j hj => h j (by omega), h n (by omega)]
theorem ysS_add {f : Int → Int} {a b : Int} {k : Nat} (hk : zb a k = false) (hb : zb b k = true) : ∀ n : Nat, k < n → (∀ j, j < n → j ≠ k → zb a j = zb b j) → ysS f b n = ysS f a n + f k
  | 0, h, _ => by omega
  | n + 1, h, e => by
    show ysS f b n + (if zb b n = true then f n else 0) = ysS f a n + (if zb a n = true then f n else 0) + f k
    by_cases q : k = n
    · subst q
      rw [ysS_eq k fun j hj => (e j (by omega) (by omega)).symm, hk, hb, if_pos rfl, if_neg (by decide)]; omega
    · rw [ysS_add hk hb n (by omega) fun j hj => e j (by omega), e n (by omega) (fun z => q z.symm)]; omega
theorem ysS_0 {f : Int → Int} : ∀ n : Nat, ysS f 0 n = 0
  | 0 => rfl
  | n + 1 => by
    show ysS f 0 n + (if zb 0 n = true then f n else 0) = 0
    rw [ysS_0 n, zb_0]; rfl
theorem ysS_or {f : Int → Int} {b : Int} {i : Nat} (hi : i < 24) (h0 : zb b i = false) : ysS f (zi_or b (zi_shl 1 i)) 24 = ysS f b 24 + f i := by
  refine ysS_add h0 ?_ 24 hi fun j hj hne => ?_
  · rw [zb_or, zb_shl (by omega) (by omega), Int.toNat_natCast, decide_eq_true rfl, Bool.or_true]
  · rw [zb_or, zb_shl (by omega) (by omega), Int.toNat_natCast, decide_eq_false hne, Bool.or_false]
theorem ysS_W : ∀ (i : Nat) (c : Int), i ≤ 24 → ysS w (ysB w hv i c) 24 = ysW w hv i c
  | 0, _, _ => ysS_0 24
  | i + 1, c, hi => by
    show ysS w (if hv i ≤ c ∧ ysW w hv i c < ysW w hv i (c - hv i) + w i then zi_or (ysB w hv i (c - hv i)) (zi_shl 1 i) else ysB w hv i c) 24 = (if hv i ≤ c ∧ ysW w hv i c < ysW w hv i (c - hv i) + w i then ysW w hv i (c - hv i) + w i else ysW w hv i c)
    split
    · rw [ysS_or (by omega) ((ysB_in i (c - hv i) (by omega)).2 i (Nat.le_refl _)), ysS_W i (c - hv i) (by omega)]
    · exact ysS_W i c (by omega)
theorem ysS_V : ∀ (i : Nat) (c : Int), i ≤ 24 → ysS hv (ysB w hv i c) 24 = ysV w hv i c
  | 0, _, _ => ysS_0 24
  | i + 1, c, hi => by
    show ysS hv (if hv i ≤ c ∧ ysW w hv i c < ysW w hv i (c - hv i) + w i then zi_or (ysB w hv i (c - hv i)) (zi_shl 1 i) else ysB w hv i c) 24 = (if hv i ≤ c ∧ ysW w hv i c < ysW w hv i (c - hv i) + w i then ysV w hv i (c - hv i) + hv i else ysV w hv i c)
    split
    · rw [ysS_or (by omega) ((ysB_in i (c - hv i) (by omega)).2 i (Nat.le_refl _)), ysS_V i (c - hv i) (by omega)]
    · exact ysS_V i c (by omega)
/-- the class: one star is offered -/
theorem ys_offer_l (h : ysR w hv) {i : Nat} (hi : i < 24) {most : Int} (m2 : most ≤ 999) {wg wt : Int → Int} (e1 : wg i = hv i) (e2 : wt i = w i) : ∀ (d : Nat) (x : Int) (A B : Int → Int) (n : Nat), x + 1 ≤ d → -1 ≤ x → x ≤ most → d < n →
    (∀ c, 0 ≤ c → c ≤ x → A c = ysW w hv i c ∧ B c = ysB w hv i c) → (∀ c, x < c → c ≤ most → A c = ysW w hv (i + 1) c ∧ B c = ysB w hv (i + 1) c) →
    ∃ A' B', zf_Chooser_offer_l0 i wg wt n x A B = some (A', B') ∧ ∀ c, 0 ≤ c → c ≤ most → A' c = ysW w hv (i + 1) c ∧ B' c = ysB w hv (i + 1) c := by
  obtain ⟨⟨w1, w2⟩, h1, h2⟩ := h i (by omega) (by omega)
  intro d
  induction d with
  | zero =>
    intro x A B n e x0 x1 hn hA hB
    obtain ⟨n, rfl⟩ : ∃ q, n = q + 1 := ⟨n - 1, by omega⟩
    refine ⟨A, B, ?_, fun c c0 c1 => hB c (by omega) c1⟩
    show zf_Chooser_offer_l0_b i wg wt (zf_Chooser_offer_l0 i wg wt n) x A B = _
    unfold zf_Chooser_offer_l0_b
    rw [zl_ci (by omega) (by omega), e1, if_pos (by omega)]
  | succ d ih =>
    intro x A B n e x0 x1 hn hA hB
    obtain ⟨n, rfl⟩ : ∃ q, n = q + 1 := ⟨n - 1, by omega⟩
    show ∃ A' B', zf_Chooser_offer_l0_b i wg wt (zf_Chooser_offer_l0 i wg wt n) x A B = some (A', B') ∧ _
    unfold zf_Chooser_offer_l0_b
    rw [zl_ci (by omega) (by omega), e1, e2]
    by_cases q : x < hv i
    · rw [if_pos q]
      refine ⟨A, B, rfl, fun c c0 c1 => ?_⟩
      by_cases z : x < c
      · exact hB c z c1
      · obtain ⟨a1, a2⟩ := hA c c0 (by omega)
        rw [a1, a2]
        constructor
        · show _ = (if hv i ≤ c ∧ ysW w hv i c < ysW w hv i (c - hv i) + w i then ysW w hv i (c - hv i) + w i else ysW w hv i c)
          rw [if_neg (fun k => by omega)]
        · show _ = (if hv i ≤ c ∧ ysW w hv i c < ysW w hv i (c - hv i) + w i then zi_or (ysB w hv i (c - hv i)) (zi_shl 1 i) else ysB w hv i c)
          rw [if_neg (fun k => by omega)]
    · obtain ⟨a1, a2⟩ := hA x (by omega) (Int.le_refl _)
      obtain ⟨b1, b2⟩ := hA (x - hv i) (by omega) (by omega)
      have k1 := ysW_in h i (x - hv i) (by omega)
      rw [if_neg q, zi_w_id (x := x - hv i) (by omega) (by omega), zl_ci (by omega) (by omega), zl_ci (by omega) (by omega), a1, b1, b2, zi_w_id (x := ysW w hv i (x - hv i) + w i) (by omega) (by omega), zi_w_id (x := x + -1) (by omega) (by omega)]
      by_cases c : ysW w hv i x < ysW w hv i (x - hv i) + w i
      · rw [if_pos c]
        refine ih (x + -1) _ _ n (by omega) (by omega) (by omega) (by omega) (fun j j0 j1 => ?_) (fun j j0 j1 => ?_)
        · rw [zv_up_n (by omega), zv_up_n (by omega)]; exact hA j j0 (by omega)
        · by_cases z : j = x
          · subst z
            rw [zv_up_s, zv_up_s]
            constructor
            · show _ = (if hv i ≤ j ∧ ysW w hv i j < ysW w hv i (j - hv i) + w i then ysW w hv i (j - hv i) + w i else ysW w hv i j)
              rw [if_pos ⟨by omega, c⟩]
            · show _ = (if hv i ≤ j ∧ ysW w hv i j < ysW w hv i (j - hv i) + w i then zi_or (ysB w hv i (j - hv i)) (zi_shl 1 i) else ysB w hv i j)
              rw [if_pos ⟨by omega, c⟩]
          · rw [zv_up_n z, zv_up_n z]; exact hB j (by omega) j1
      · rw [if_neg c]
        refine ih (x + -1) _ _ n (by omega) (by omega) (by omega) (by omega) (fun j j0 j1 => hA j j0 (by omega)) (fun j j0 j1 => ?_)
        by_cases z : j = x
        · subst z
          rw [a1, a2]
          constructor
          · show _ = (if hv i ≤ j ∧ ysW w hv i j < ysW w hv i (j - hv i) + w i then ysW w hv i (j - hv i) + w i else ysW w hv i j)
            rw [if_neg (fun k => c k.2)]
          · show _ = (if hv i ≤ j ∧ ysW w hv i j < ysW w hv i (j - hv i) + w i then zi_or (ysB w hv i (j - hv i)) (zi_shl 1 i) else ysB w hv i j)
            rw [if_neg (fun k => c k.2)]
        · exact hB j (by omega) j1
theorem ysW_st (h : ysR w hv) {i : Nat} (hi : i < 24) (h0 : w i = 0) (c : Int) : ysW w hv (i + 1) c = ysW w hv i c ∧ ysB w hv (i + 1) c = ysB w hv i c := by
  obtain ⟨-, h1, h2⟩ := h i (by omega) (by omega)
  have m := ysW_mono h i (c - hv i) c (by omega) (by omega)
  constructor
  · show (if hv i ≤ c ∧ ysW w hv i c < ysW w hv i (c - hv i) + w i then ysW w hv i (c - hv i) + w i else ysW w hv i c) = _
    rw [if_neg (fun k => by omega)]
  · show (if hv i ≤ c ∧ ysW w hv i c < ysW w hv i (c - hv i) + w i then zi_or (ysB w hv i (c - hv i)) (zi_shl 1 i) else ysB w hv i c) = _
    rw [if_neg (fun k => by omega)]
theorem ys_best_l (h : ysR w hv) {most t : Int} (m1 : 0 ≤ most) (m2 : most ≤ 999) (ht : ∀ i : Nat, i < 24 → ¬ zb t i = true → w i = 0) {wg wt : Int → Int} (e1 : ∀ i, 0 ≤ i → i < 24 → wg i = hv i) (e2 : ∀ i, 0 ≤ i → i < 24 → wt i = w i) : ∀ (d i : Nat) (A B : Int → Int) (n : Nat), i + d = 24 → d < n →
    (∀ c, 0 ≤ c → c ≤ most → A c = ysW w hv i c ∧ B c = ysB w hv i c) →
    ∃ A' B', zf_Chooser_bestSold_l0 t most wt wg n i A B = some (A', B') ∧ ∀ c, 0 ≤ c → c ≤ most → A' c = ysW w hv 24 c ∧ B' c = ysB w hv 24 c := by
  intro d
  induction d with
  | zero =>
    intro i A B n e hn hA
    obtain ⟨n, rfl⟩ : ∃ q, n = q + 1 := ⟨n - 1, by omega⟩
    obtain rfl : i = 24 := by omega
    refine ⟨A, B, ?_, hA⟩
    show zf_Chooser_bestSold_l0_b t most wt wg (zf_Chooser_bestSold_l0 t most wt wg n) ((24 : Nat) : Int) A B = _
    unfold zf_Chooser_bestSold_l0_b
    rw [if_neg (by decide)]
  | succ d ih =>
    intro i A B n e hn hA
    obtain ⟨n, rfl⟩ : ∃ q, n = q + 1 := ⟨n - 1, by omega⟩
    show ∃ A' B', zf_Chooser_bestSold_l0_b t most wt wg (zf_Chooser_bestSold_l0 t most wt wg n) i A B = some (A', B') ∧ _
    unfold zf_Chooser_bestSold_l0_b
    rw [if_pos (by omega), zi_w_id (x := (i : Int) + 1) (by omega) (by omega), show ((i : Int) + 1) = ((i + 1 : Nat) : Int) by omega, zl_ci (by omega) (by omega), e2 i (by omega) (by omega)]
    have skip : w i = 0 → ∃ A' B', zf_Chooser_bestSold_l0 t most wt wg n ((i + 1 : Nat) : Int) A B = some (A', B') ∧ ∀ c, 0 ≤ c → c ≤ most → A' c = ysW w hv 24 c ∧ B' c = ysB w hv 24 c := fun hw =>
      ih (i + 1) A B n (by omega) (by omega) fun c c0 c1 => by
        obtain ⟨a1, a2⟩ := hA c c0 c1
        obtain ⟨b1, b2⟩ := ysW_st h (by omega : i < 24) hw c
        rw [a1, a2, b1, b2]; exact ⟨rfl, rfl⟩
    by_cases q : zb t i = true
    · rw [zb_bit1 (by omega) (by omega) (by rw [Int.toNat_natCast]; exact q), if_neg (show ¬ (1 : Int) = 0 by decide)]
      by_cases z : 0 < w i
      · rw [if_pos z]
        obtain ⟨A1, B1, e3, h3⟩ := ys_offer_l h (by omega : i < 24) m2 (e1 i (by omega) (by omega)) (e2 i (by omega) (by omega)) 1000 most A B zi_fu (by omega) (by omega) (Int.le_refl _) (by decide) hA (fun c c0 c1 => by omega)
        unfold zf_Chooser_offer
        rw [e3, zl_b, zl_b]
        exact ih (i + 1) A1 B1 n (by omega) (by omega) h3
      · rw [if_neg z]
        have := (h i (by omega) (by omega)).1
        exact skip (by omega)
    · rw [zb_bit0 (by omega) (by omega) (by rw [Int.toNat_natCast]; exact q), if_pos rfl]
      exact skip (ht i (by omega) q)
theorem ze_fill1000_l0 {v : Int} : ∀ (d : Nat) (j : Int) (g : Int → Int) (n : Nat), j + d = 1000 → 0 ≤ j → d < n → ∃ g2, zf_Arrays_fill_1000_l0 v 1000 n j g = some g2 ∧ (∀ i, j ≤ i → i < 1000 → g2 i = v) ∧ ∀ i, i < j → g2 i = g i := by
  intro d
  induction d with
  | zero =>
    intro j g n e _ hn
    obtain ⟨n, rfl⟩ : ∃ q, n = q + 1 := ⟨n - 1, by omega⟩
    refine ⟨g, ?_, fun i _ _ => by omega, fun _ _ => rfl⟩
    show zf_Arrays_fill_1000_l0_b v 1000 (zf_Arrays_fill_1000_l0 v 1000 n) j g = _
    unfold zf_Arrays_fill_1000_l0_b
    rw [if_neg (by omega)]
  | succ d ih =>
    intro j g n e j0 hn
    obtain ⟨n, rfl⟩ : ∃ q, n = q + 1 := ⟨n - 1, by omega⟩
    obtain ⟨g2, e1, a, b⟩ := ih (j + 1) (zv_up g j v) n (by omega) (by omega) (by omega)
    refine ⟨g2, ?_, fun i i1 i2 => ?_, fun i i1 => ?_⟩
    · show zf_Arrays_fill_1000_l0_b v 1000 (zf_Arrays_fill_1000_l0 v 1000 n) j g = _
      unfold zf_Arrays_fill_1000_l0_b
      rw [if_pos (by omega), zl_ci j0 (by omega), zi_w_id (x := j + 1) (by omega) (by omega), e1]
    · by_cases q : i = j
      · subst q
        rw [b i (by omega), zv_up_s]
      · exact a i (by omega) i2
    · rw [b i (by omega), zv_up_n (by omega)]
theorem ys_best (h : ysR w hv) {most t : Int} (m1 : 0 ≤ most) (m2 : most ≤ 999) (ht : ∀ i : Nat, i < 24 → ¬ zb t i = true → w i = 0) {wg wt g0 g1 : Int → Int} (e1 : ∀ i, 0 ≤ i → i < 24 → wg i = hv i) (e2 : ∀ i, 0 ≤ i → i < 24 → wt i = w i) :
    ∃ A' B', zf_Chooser_bestSold t most g0 g1 wt wg = some (ysB w hv 24 most, A', B') := by
  obtain ⟨A, f1, a1, -⟩ := ze_fill1000_l0 (v := 0) 1000 0 g0 zi_fu (by decide) (by decide) (by decide)
  obtain ⟨B, f2, b1, -⟩ := ze_fill1000_l0 (v := 0) 1000 0 g1 zi_fu (by decide) (by decide) (by decide)
  obtain ⟨A', B', e3, h3⟩ := ys_best_l h m1 m2 ht e1 e2 24 0 A B zi_fu rfl (by decide) fun c c0 c1 => ⟨a1 c c0 (by omega), b1 c c0 (by omega)⟩
  refine ⟨A', B', ?_⟩
  unfold zf_Chooser_bestSold zf_Arrays_fill_1000
  rw [f1, zl_b, zl_b, f2, zl_b, zl_b, show zf_Chooser_bestSold_l0 t most wt wg zi_fu 0 A B = _ from e3, zl_b, zl_ci m1 (by omega)]
  dsimp only
  rw [(h3 most m1 (Int.le_refl _)).2]
end YSO
end
section
/-! sold on the reference's side: the table, and the way back. -/
section YSP2
variable {w hv : Int → Int}
theorem ysW_up {i : Nat} {c : Int} : ysW w hv (i + 1) c = (if hv i ≤ c ∧ ysW w hv i c < ysW w hv i (c - hv i) + w i then ysW w hv i (c - hv i) + w i else ysW w hv i c) := rfl
theorem ysm_zero {most : Int} (m2 : most ≤ 999) : ∀ (d : Nat) (c : Int) (G : Int → Int) (n : Nat), most + 1 - c ≤ d → 0 ≤ c → c ≤ most + 1 → d < n → (∀ j, 0 ≤ j → j < c → G j = 0) → ∃ G', zf_M_sold_l1 most n c G = some G' ∧ ∀ j, 0 ≤ j → j ≤ most → G' j = 0 := by
  intro d
  induction d with
  | zero =>
    intro c G n e c0 c1 hn h
    obtain ⟨n, rfl⟩ : ∃ q, n = q + 1 := ⟨n - 1, by omega⟩
    refine ⟨G, ?_, fun j j0 j1 => h j j0 (by omega)⟩
    show zf_M_sold_l1_b most (zf_M_sold_l1 most n) c G = _
    unfold zf_M_sold_l1_b
    rw [if_pos (by omega)]
  | succ d ih =>
    intro c G n e c0 c1 hn h
    obtain ⟨n, rfl⟩ : ∃ q, n = q + 1 := ⟨n - 1, by omega⟩
    show ∃ G', zf_M_sold_l1_b most (zf_M_sold_l1 most n) c G = some G' ∧ _
    unfold zf_M_sold_l1_b
    by_cases q : most < c
    · rw [if_pos q]
      exact ⟨G, rfl, fun j j0 j1 => h j j0 (by omega)⟩
    · rw [if_neg q, zl_ci c0 (by omega), zi_w_id (x := c + 1) (by omega) (by omega)]
      refine ih (c + 1) _ n (by omega) (by omega) (by omega) (by omega) fun j j0 j1 => ?_
      by_cases z : j = c
      · subst z; rw [zv_up_s]
      · rw [zv_up_n z]; exact h j j0 (by omega)
theorem ysm_row (h : ysR w hv) {most t : Int} {m gw gh : Int → Int} (m1 : 0 ≤ most) (m2 : most ≤ 999) (ht : z24 t) (k126 : m 126 = t) (hu : ∀ i : Nat, i < 24 → ¬ zb t i = true → w i = 0) (e1 : ∀ i, 0 ≤ i → i < 24 → gw i = w i) (e2 : ∀ i, 0 ≤ i → i < 24 → gh i = hv i) {i : Nat} (hi : i < 24) : ∀ (d : Nat) (c : Int) (G : Int → Int) (n : Nat), most + 1 - c ≤ d → 0 ≤ c → c ≤ most + 1 → d < n →
    (∀ (r : Nat) j, r ≤ i → 0 ≤ j → j ≤ most → G (1000 * (r : Int) + j) = ysW w hv r j) → (∀ j, 0 ≤ j → j < c → G (1000 * ((i : Int) + 1) + j) = ysW w hv (i + 1) j) →
    ∃ G', zf_M_sold_l3 most i m gw gh n c G = some G' ∧ ∀ (r : Nat) j, r ≤ i + 1 → 0 ≤ j → j ≤ most → G' (1000 * (r : Int) + j) = ysW w hv r j := by
  have tin : 0 ≤ t ∧ t ≤ 2147483647 := ⟨ht.1, by have := ht.2; omega⟩
  obtain ⟨⟨w1, w2⟩, h1, h2⟩ := h i (by omega) (by omega)
  have fin : ∀ G : Int → Int, (∀ (r : Nat) j, r ≤ i → 0 ≤ j → j ≤ most → G (1000 * (r : Int) + j) = ysW w hv r j) → (∀ j, 0 ≤ j → j < most + 1 → G (1000 * ((i : Int) + 1) + j) = ysW w hv (i + 1) j) → ∀ (r : Nat) j, r ≤ i + 1 → 0 ≤ j → j ≤ most → G (1000 * (r : Int) + j) = ysW w hv r j := fun G a b r j r1 j0 j1 => by
    by_cases z : r = i + 1
    · subst z
      rw [show 1000 * ((i + 1 : Nat) : Int) + j = 1000 * ((i : Int) + 1) + j by omega]
      exact b j j0 (by omega)
    · exact a r j (by omega) j0 j1
  intro d
  induction d with
  | zero =>
    intro c G n e c0 c1 hn hA hB
    obtain ⟨n, rfl⟩ : ∃ q, n = q + 1 := ⟨n - 1, by omega⟩
    refine ⟨G, ?_, fin G hA fun j j0 j1 => hB j j0 (by omega)⟩
    show zf_M_sold_l3_b most i m gw gh (zf_M_sold_l3 most i m gw gh n) c G = _
    unfold zf_M_sold_l3_b
    rw [if_pos (by omega)]
  | succ d ih =>
    intro c G n e c0 c1 hn hA hB
    obtain ⟨n, rfl⟩ : ∃ q, n = q + 1 := ⟨n - 1, by omega⟩
    show ∃ G', zf_M_sold_l3_b most i m gw gh (zf_M_sold_l3 most i m gw gh n) c G = some G' ∧ _
    unfold zf_M_sold_l3_b
    by_cases q : most < c
    · rw [if_pos q]
      exact ⟨G, rfl, fin G hA fun j j0 j1 => hB j j0 (by omega)⟩
    rw [if_neg q, zi_w_id (x := 1000 * (i : Int)) (by omega) (by omega), zi_w_id (x := 1000 * (i : Int) + c) (by omega) (by omega), zi_w_id (x := (i : Int) + 1) (by omega) (by omega), zi_w_id (x := 1000 * ((i : Int) + 1)) (by omega) (by omega), zi_w_id (x := 1000 * ((i : Int) + 1) + c) (by omega) (by omega), zi_w_id (x := c + 1) (by omega) (by omega), zl_ci (a := 1000 * (i : Int) + c) (by omega) (by omega), ze_M_isTold (by rw [k126]; exact tin.1) (by rw [k126]; exact tin.2), k126, zl_b, zl_ci (a := (i : Int)) (by omega) (by omega), e2 i (by omega) (by omega), hA i c (Nat.le_refl _) c0 (by omega)]
    have go : ∀ v, v = ysW w hv (i + 1) c → ∃ G', zf_M_sold_l3 most i m gw gh n (c + 1) (zv_up G (1000 * ((i : Int) + 1) + c) v) = some G' ∧ ∀ (r : Nat) j, r ≤ i + 1 → 0 ≤ j → j ≤ most → G' (1000 * (r : Int) + j) = ysW w hv r j := fun v hv1 => by
      refine ih (c + 1) _ n (by omega) (by omega) (by omega) (by omega) (fun r j r1 j0 j1 => ?_) (fun j j0 j1 => ?_)
      · rw [zv_up_n (by omega)]; exact hA r j r1 j0 j1
      · by_cases z : j = c
        · subst z; rw [zv_up_s]; exact hv1
        · rw [zv_up_n (by omega)]; exact hB j j0 (by omega)
    by_cases z : zs_has 24 t i = 0
    · rw [if_pos z, zl_ci (a := 1000 * ((i : Int) + 1) + c) (by omega) (by omega)]
      refine go _ ?_
      have hz : ¬ zb t i = true := fun hh => by
        rw [zs_has1 tin.1 tin.2 (by omega) (by omega) (by rw [Int.toNat_natCast]; exact hh)] at z
        exact absurd z (by decide)
      exact (ysW_st h hi (hu i hi hz) c).1.symm
    · rw [if_neg z]
      by_cases x : c < hv i
      · rw [if_pos x, zl_ci (a := 1000 * ((i : Int) + 1) + c) (by omega) (by omega)]
        refine go _ ?_
        rw [ysW_up, if_neg (fun k => by omega)]
      · have b := hA i (c - hv i) (Nat.le_refl _) (by omega) (by omega)
        have k1 := ysW_in h i (c - hv i) (by omega)
        rw [if_neg x, zi_w_id (x := 1000 * (i : Int) + c - hv i) (by omega) (by omega), zl_ci (by omega) (by omega), show 1000 * (i : Int) + c - hv i = 1000 * (i : Int) + (c - hv i) by omega, b, e1 i (by omega) (by omega), zi_w_id (x := w i + ysW w hv i (c - hv i)) (by omega) (by omega), ze_mm, zl_b, zl_ci (a := 1000 * ((i : Int) + 1) + c) (by omega) (by omega)]
        refine go _ ?_
        rw [ysW_up]
        split <;> split <;> omega
theorem ysm_tab (h : ysR w hv) {most t : Int} {m gw gh : Int → Int} (m1 : 0 ≤ most) (m2 : most ≤ 999) (ht : z24 t) (k126 : m 126 = t) (hu : ∀ i : Nat, i < 24 → ¬ zb t i = true → w i = 0) (e1 : ∀ i, 0 ≤ i → i < 24 → gw i = w i) (e2 : ∀ i, 0 ≤ i → i < 24 → gh i = hv i) : ∀ (d i : Nat) (G : Int → Int) (n : Nat), i + d = 24 → d < n →
    (∀ (r : Nat) j, r ≤ i → 0 ≤ j → j ≤ most → G (1000 * (r : Int) + j) = ysW w hv r j) →
    ∃ G', zf_M_sold_l2 most m gw gh n i G = some G' ∧ ∀ (r : Nat) j, r ≤ 24 → 0 ≤ j → j ≤ most → G' (1000 * (r : Int) + j) = ysW w hv r j := by
  intro d
  induction d with
  | zero =>
    intro i G n e hn hA
    obtain ⟨n, rfl⟩ : ∃ q, n = q + 1 := ⟨n - 1, by omega⟩
    obtain rfl : i = 24 := by omega
    refine ⟨G, ?_, hA⟩
    show zf_M_sold_l2_b most m gw gh (zf_M_sold_l2 most m gw gh n) ((24 : Nat) : Int) G = _
    unfold zf_M_sold_l2_b
    rw [if_neg (by decide)]
  | succ d ih =>
    intro i G n e hn hA
    obtain ⟨n, rfl⟩ : ∃ q, n = q + 1 := ⟨n - 1, by omega⟩
    show ∃ G', zf_M_sold_l2_b most m gw gh (zf_M_sold_l2 most m gw gh n) i G = some G' ∧ _
    unfold zf_M_sold_l2_b
    rw [if_pos (by omega), zi_w_id (x := (i : Int) + 1) (by omega) (by omega), show ((i : Int) + 1) = ((i + 1 : Nat) : Int) by omega]
    obtain ⟨G1, e3, h3⟩ := ysm_row h m1 m2 ht k126 hu e1 e2 (by omega : i < 24) 1000 0 G zi_fu (by omega) (by omega) (by omega) (by decide) hA (fun j j0 j1 => by omega)
    rw [e3, zl_b]
    exact ih (i + 1) G1 n (by omega) (by omega) h3
theorem zi_or_as {a b c : Int} : zi_or (zi_or a b) c = zi_or a (zi_or b c) := by
  unfold zi_or
  refine zi_ev_zb fun j _ => ?_
  show zb (zi_or (zi_or a b) c) j = zb (zi_or a (zi_or b c)) j
  rw [zb_or, zb_or, zb_or, zb_or, Bool.or_assoc]
theorem zi_or_cm {a b : Int} : zi_or a b = zi_or b a := by
  unfold zi_or
  refine zi_ev_zb fun j _ => ?_
  show zb (zi_or a b) j = zb (zi_or b a) j
  rw [zb_or, zb_or, Bool.or_comm]
theorem ysm_back (h : ysR w hv) {most : Int} {G gh : Int → Int} (m2 : most ≤ 999) (hG : ∀ (r : Nat) j, r ≤ 24 → 0 ≤ j → j ≤ most → G (1000 * (r : Int) + j) = ysW w hv r j) (e2 : ∀ i, 0 ≤ i → i < 24 → gh i = hv i) : ∀ (i : Nat) (l s : Int) (n : Nat), i ≤ 24 → 0 ≤ l → l ≤ most → i < n → z24 s →
    zf_M_sold_l4 gh G n l s ((i : Int) - 1) = some (l - ysV w hv i l, zi_or s (ysB w hv i l)) := by
  intro i
  induction i with
  | zero =>
    intro l s n hi l0 l1 hn hs
    obtain ⟨n, rfl⟩ : ∃ q, n = q + 1 := ⟨n - 1, by omega⟩
    show zf_M_sold_l4_b gh G (zf_M_sold_l4 gh G n) l s (((0 : Nat) : Int) - 1) = some (l - 0, zi_or s 0)
    unfold zf_M_sold_l4_b
    rw [if_pos (by decide), show zi_or s 0 = s from z24_ext (z24_or hs z24_0) hs fun j _ => by rw [zb_or, zb_0, Bool.or_false], Int.sub_zero]
  | succ i ih =>
    intro l s n hi l0 l1 hn hs
    obtain ⟨n, rfl⟩ : ∃ q, n = q + 1 := ⟨n - 1, by omega⟩
    obtain ⟨⟨w1, w2⟩, h1, h2⟩ := h i (by omega) (by omega)
    show zf_M_sold_l4_b gh G (zf_M_sold_l4 gh G n) l s (((i + 1 : Nat) : Int) - 1) = some (l - (if hv i ≤ l ∧ ysW w hv i l < ysW w hv i (l - hv i) + w i then ysV w hv i (l - hv i) + hv i else ysV w hv i l), zi_or s (if hv i ≤ l ∧ ysW w hv i l < ysW w hv i (l - hv i) + w i then zi_or (ysB w hv i (l - hv i)) (zi_shl 1 i) else ysB w hv i l))
    unfold zf_M_sold_l4_b
    rw [show (((i + 1 : Nat) : Int) - 1) = (i : Int) by omega, if_neg (by omega), zi_w_id (x := 1000 * (i : Int)) (by omega) (by omega), zi_w_id (x := 1000 * (i : Int) + l) (by omega) (by omega), zi_w_id (x := (i : Int) + 1) (by omega) (by omega), zi_w_id (x := 1000 * ((i : Int) + 1)) (by omega) (by omega), zi_w_id (x := 1000 * ((i : Int) + 1) + l) (by omega) (by omega), zi_w_id (x := (i : Int) + -1) (by omega) (by omega), zl_ci (a := 1000 * (i : Int) + l) (by omega) (by omega), zl_ci (a := 1000 * ((i : Int) + 1) + l) (by omega) (by omega), zl_ci (a := (i : Int)) (by omega) (by omega), e2 i (by omega) (by omega), hG i l (by omega) l0 l1, show 1000 * ((i : Int) + 1) + l = 1000 * ((i + 1 : Nat) : Int) + l by omega, hG (i + 1) l hi l0 l1, ysW_up]
    by_cases q : hv i ≤ l ∧ ysW w hv i l < ysW w hv i (l - hv i) + w i
    · rw [if_pos q, if_pos q, if_pos q, if_neg (by omega), zi_w_id (x := l - hv i) (by omega) (by omega), show (i : Int) + -1 = (i : Int) - 1 by omega, ih (l - hv i) _ n (by omega) (by omega) (by omega) (by omega) (z24_or hs (z24_shl (by omega) (by omega))), zi_or_as, zi_or_cm (a := zi_shl 1 (i : Int)), show l - hv i - ysV w hv i (l - hv i) = l - (ysV w hv i (l - hv i) + hv i) by omega]
    · rw [if_neg q, if_neg q, if_neg q, if_pos rfl, show (i : Int) + -1 = (i : Int) - 1 by omega, ih l s n (by omega) l0 l1 (by omega) hs]
theorem ysx_sum_l {f g : Int → Int} {b : Int} (hb : z24 b) (e : ∀ i, 0 ≤ i → i < 24 → g i = f i) (h : ∀ i, 0 ≤ i → i < 24 → 0 ≤ f i ∧ f i ≤ 999) : ∀ (d i : Nat) (s : Int) (n : Nat), i + d = 24 → d < n → s = ysS f b i → (0 ≤ s ∧ s ≤ 999 * i) →
    zf_Chooser_worthOf_l0 b g n s i = some (ysS f b 24) ∧ zf_Chooser_weightOf_l0 b g n s i = some (ysS f b 24) := by
  intro d
  induction d with
  | zero =>
    intro i s n e0 hn hs hr
    obtain ⟨n, rfl⟩ : ∃ q, n = q + 1 := ⟨n - 1, by omega⟩
    obtain rfl : i = 24 := by omega
    show zf_Chooser_worthOf_l0_b b g (zf_Chooser_worthOf_l0 b g n) s ((24 : Nat) : Int) = _ ∧ zf_Chooser_weightOf_l0_b b g (zf_Chooser_weightOf_l0 b g n) s ((24 : Nat) : Int) = _
    unfold zf_Chooser_worthOf_l0_b zf_Chooser_weightOf_l0_b
    rw [if_neg (by decide), if_neg (by decide), hs]
    exact ⟨rfl, rfl⟩
  | succ d ih =>
    intro i s n e0 hn hs hr
    obtain ⟨n, rfl⟩ : ∃ q, n = q + 1 := ⟨n - 1, by omega⟩
    obtain ⟨f1, f2⟩ := h i (by omega) (by omega)
    show zf_Chooser_worthOf_l0_b b g (zf_Chooser_worthOf_l0 b g n) s i = _ ∧ zf_Chooser_weightOf_l0_b b g (zf_Chooser_weightOf_l0 b g n) s i = _
    unfold zf_Chooser_worthOf_l0_b zf_Chooser_weightOf_l0_b
    rw [if_pos (by omega), if_pos (by omega), zl_ci (by omega) (by omega), zl_ci (by omega) (by omega), e i (by omega) (by omega), zb_bit (by omega) (by omega), Int.toNat_natCast, zi_w_id (x := (i : Int) + 1) (by omega) (by omega), show ((i : Int) + 1) = ((i + 1 : Nat) : Int) by omega]
    have st : ∀ v, v = (if zb b i = true then f i else 0) → (zi_w ((if zb b i = true then (1 : Int) else 0) * f i) = v) := fun v hv => by
      subst hv
      by_cases q : zb b i = true
      · rw [if_pos q, if_pos q, Int.one_mul, zi_w_id (by omega) (by omega)]
      · rw [if_neg q, if_neg q, Int.zero_mul, zi_w_id (by omega) (by omega)]
    rw [st _ rfl]
    have r2 : 0 ≤ (if zb b i = true then f i else 0) ∧ (if zb b i = true then f i else 0) ≤ 999 := by split <;> omega
    have hs2 : s + (if zb b i = true then f i else 0) = ysS f b (i + 1) := by rw [hs]; rfl
    generalize (if zb b i = true then f i else 0) = v at r2 hs2
    rw [zi_w_id (x := s + v) (by omega) (by omega)]
    exact ih (i + 1) _ n (by omega) (by omega) hs2 ⟨by omega, by omega⟩
theorem ysx_sum {f g : Int → Int} {b : Int} (hb : z24 b) (e : ∀ i, 0 ≤ i → i < 24 → g i = f i) (h : ∀ i, 0 ≤ i → i < 24 → 0 ≤ f i ∧ f i ≤ 999) : zf_Chooser_worthOf b g = some (ysS f b 24) ∧ zf_Chooser_weightOf b g = some (ysS f b 24) := by
  obtain ⟨a1, a2⟩ := ysx_sum_l hb e h 24 0 0 zi_fu rfl (by decide) rfl ⟨by decide, by decide⟩
  unfold zf_Chooser_worthOf zf_Chooser_weightOf
  rw [show zf_Chooser_worthOf_l0 b g zi_fu 0 0 = _ from a1, show zf_Chooser_weightOf_l0 b g zi_fu 0 0 = _ from a2]
  exact ⟨rfl, rfl⟩
end YSP2
end
section
/-! sold: what stars are worth and how heavy they are; both sides. -/
theorem yl_amt_in {L : zLW} {k high : Int} {lt : Int → Int} (hh : 0 ≤ high) : 0 ≤ yl_amt L k high lt ∧ yl_amt L k high lt ≤ high := by
  have hc : ∀ r : Option Int, 0 ≤ yl_clm high r ∧ yl_clm high r ≤ high := fun r => by
    cases r with
    | none => exact ⟨Int.le_refl 0, hh⟩
    | some v =>
      show 0 ≤ (if v < 0 then 0 else if high < v then high else v) ∧ (if v < 0 then 0 else if high < v then high else v) ≤ high
      split
      · omega
      · split <;> omega
  have hF : ∀ (n : Nat) (q : Int), 0 ≤ yl_amtF L k high lt n q ∧ yl_amtF L k high lt n q ≤ high := fun n => by
    induction n with
    | zero => intro q; exact ⟨Int.le_refl 0, hh⟩
    | succ n ih =>
      intro q
      show 0 ≤ (if L.2.1 q = k ∧ L.2.2.1 q lt = some 1 then yl_clm high (L.2.2.2 q lt) else yl_amtF L k high lt n (q + 1)) ∧ (if L.2.1 q = k ∧ L.2.2.1 q lt = some 1 then yl_clm high (L.2.2.2 q lt) else yl_amtF L k high lt n (q + 1)) ≤ high
      split
      · exact hc _
      · exact ih (q + 1)
  exact hF _ 0
def ysw (L : zLW) (t h u : Int) (co ro br : Int → Int) (k high : Int) (j : Int) : Int := if zb t j.toNat = true then yl_amt L k high (yv_lt h u j (br j) (ro j) (yv_st h co j) 0 0 0) else 0
section YSX2
variable {L : zLW} {K V kd fr hf to C mk mf mh mt : Int → Int} {nc tS tL sP lP mc : Int} {t h u cl sc sr ch : Int} {co ro br wc wr m : Int → Int}
theorem ysw_R : ysR (ysw L t h u co ro br 119 999) (ysw L t h u co ro br 103 99) := fun i i0 i1 => by
  unfold ysw
  constructor
  · split
    · exact yl_amt_in (by decide)
    · decide
  · split
    · exact yl_amt_in (by decide)
    · decide
theorem ysx_weigh_l (R : yl_R L K V nc tS tL sP lP kd fr hf to mc C mk mf mh mt) (k : yk_sky t h u cl sc sr ch co ro br wc wr m) : ∀ (d : Nat) (i f : Int) (g A B S : Int → Int) (n : Nat), i + d = 24 → 0 ≤ i → d < n → yv_ba h u 0 0 g → g 12 = 0 → (∀ j, 0 ≤ j → j < i → A j = ysw L t h u co ro br 119 999 j ∧ B j = ysw L t h u co ro br 103 99 j) →
    ∃ f' g' A' B' S', zf_Chooser_weighStars_l0 h t nc br ro co kd hf to K V fr n i f g A B S = some (f', g', A', B', S') ∧ ∀ j, 0 ≤ j → j < 24 → A' j = ysw L t h u co ro br 119 999 j ∧ B' j = ysw L t h u co ro br 103 99 j := by
  obtain ⟨⟨ht, k126⟩, ⟨⟨h1, h2⟩, k128⟩, k129, -, -, -, -, ki⟩ := id k
  have tin : 0 ≤ t ∧ t ≤ 2147483647 := ⟨ht.1, by have := ht.2; omega⟩
  intro d
  induction d with
  | zero =>
    intro i f g A B S n e i0 hn hg h12 hA
    obtain ⟨n, rfl⟩ : ∃ q, n = q + 1 := ⟨n - 1, by omega⟩
    refine ⟨f, g, A, B, S, ?_, fun j j0 j1 => hA j j0 (by omega)⟩
    show zf_Chooser_weighStars_l0_b h t nc br ro co kd hf to K V fr (zf_Chooser_weighStars_l0 h t nc br ro co kd hf to K V fr n) i f g A B S = _
    unfold zf_Chooser_weighStars_l0_b
    rw [if_neg (by omega)]
  | succ d ih =>
    intro i f g A B S n e i0 hn hg h12 hA
    obtain ⟨n, rfl⟩ : ∃ q, n = q + 1 := ⟨n - 1, by omega⟩
    obtain ⟨⟨⟨c1, c2⟩, ⟨r1, r2⟩, -⟩, -⟩ := ki i i0 (by omega)
    show ∃ f' g' A' B' S', zf_Chooser_weighStars_l0_b h t nc br ro co kd hf to K V fr (zf_Chooser_weighStars_l0 h t nc br ro co kd hf to K V fr n) i f g A B S = some (f', g', A', B', S') ∧ _
    unfold zf_Chooser_weighStars_l0_b
    rw [if_pos (by omega), zl_ci i0 (by omega), ze_Sky_hasStar tin.1 tin.2, zl_b, zi_w_id (x := i + 1) (by omega) (by omega)]
    have up : ∀ v x y, v = ysw L t h u co ro br 119 999 i → x = ysw L t h u co ro br 103 99 i → ∀ j, 0 ≤ j → j < i + 1 → zv_up (zv_up A i y) i v j = ysw L t h u co ro br 119 999 j ∧ zv_up (zv_up B i y) i x j = ysw L t h u co ro br 103 99 j := fun v x y e1 e2 j j0 j1 => by
      by_cases z : j = i
      · subst z; rw [zv_up_s, zv_up_s]; exact ⟨e1, e2⟩
      · rw [zv_up_n z, zv_up_n z, zv_up_n z, zv_up_n z]; exact hA j j0 (by omega)
    by_cases q : zs_has 24 t i = 0
    · rw [if_pos q]
      have hz : ¬ zb t i.toNat = true := fun hh => by
        rw [zs_has1 tin.1 tin.2 i0 (by omega) hh] at q
        exact absurd q (by decide)
      refine ih (i + 1) _ _ _ _ _ n (by omega) (by omega) (by omega) hg h12 fun j j0 j1 => ?_
      by_cases z : j = i
      · subst z
        rw [zv_up_s, zv_up_s]
        unfold ysw
        rw [if_neg hz, if_neg hz]; exact ⟨rfl, rfl⟩
      · rw [zv_up_n z, zv_up_n z]; exact hA j j0 (by omega)
    · have hz : zb t i.toNat = true := by
        by_cases hh : zb t i.toNat = true
        · exact hh
        · exact absurd (zs_has0 tin.1 tin.2 hh) q
      rw [if_neg q, ze_setStar i0 (by omega) c1 c2 h1 h2, zl_b]
      have hg2 : yv_ba h u 0 0 (zv_up (zv_up (zv_up (zv_up g 2 i) 3 (br i)) 4 (ro i)) 5 (yv_st h co i)) := hg
      have hl := yv_lt_of (i := i) (b := br i) (r := ro i) (c := yv_st h co i) (d := 0) hg2 rfl rfl rfl rfl h12
      obtain ⟨a1, S1, e1⟩ := yl_amtX (lt := zv_up (zv_up (zv_up (zv_up g 2 i) 3 (br i)) 4 (ro i)) 5 (yv_st h co i)) (k := 119) (high := 999) (f1 := f) (S := S) R (.inl rfl) (by decide)
      obtain ⟨a2, S2, e2⟩ := yl_amtX (lt := zv_up (zv_up (zv_up (zv_up g 2 i) 3 (br i)) 4 (ro i)) 5 (yv_st h co i)) (k := 103) (high := 99) (f1 := a1) (S := S1) R (.inr (.inl rfl)) (by decide)
      rw [e1, zl_b, e2, zl_b]
      refine ih (i + 1) _ _ _ _ _ n (by omega) (by omega) (by omega) hg2 h12 (up _ _ _ ?_ ?_)
      · unfold ysw
        rw [if_pos hz]
        exact yl_amt_c R (.inl rfl) hl
      · unfold ysw
        rw [if_pos hz]
        exact yl_amt_c R (.inr (.inl rfl)) hl
theorem ysm_weigh_l (R : yl_R L K V nc tS tL sP lP kd fr hf to mc C mk mf mh mt) (k : yk_sky t h u cl sc sr ch co ro br wc wr m) : ∀ (d : Nat) (i : Int) (g A B S : Int → Int) (n : Nat), i + d = 24 → 0 ≤ i → d < n → (∀ j, 0 ≤ j → j < i → A j = ysw L t h u co ro br 119 999 j ∧ B j = ysw L t h u co ro br 103 99 j) →
    ∃ g' A' B' S', zf_M_sold_l0 mc m mk mh mt C mf n i g A B S = some (g', A', B', S') ∧ ∀ j, 0 ≤ j → j < 24 → A' j = ysw L t h u co ro br 119 999 j ∧ B' j = ysw L t h u co ro br 103 99 j := by
  obtain ⟨⟨ht, k126⟩, ⟨⟨h1, h2⟩, k128⟩, k129, -, -, -, -, ki⟩ := id k
  have tin : 0 ≤ t ∧ t ≤ 2147483647 := ⟨ht.1, by have := ht.2; omega⟩
  intro d
  induction d with
  | zero =>
    intro i g A B S n e i0 hn hA
    obtain ⟨n, rfl⟩ : ∃ q, n = q + 1 := ⟨n - 1, by omega⟩
    refine ⟨g, A, B, S, ?_, fun j j0 j1 => hA j j0 (by omega)⟩
    show zf_M_sold_l0_b mc m mk mh mt C mf (zf_M_sold_l0 mc m mk mh mt C mf n) i g A B S = _
    unfold zf_M_sold_l0_b
    rw [if_neg (by omega)]
  | succ d ih =>
    intro i g A B S n e i0 hn hA
    obtain ⟨n, rfl⟩ : ∃ q, n = q + 1 := ⟨n - 1, by omega⟩
    obtain ⟨-, ⟨⟨c1, c2⟩, -⟩, h3⟩ := ki i i0 (by omega)
    obtain ⟨g2, e0, b0, b1, b2, b3, b4, b5, b6⟩ := ze_M_feelsStar (g := g) (m := m) i0 (by omega) c1 c2 (by rw [k128]; exact h1) (by rw [k128]; exact h2)
    show ∃ g' A' B' S', zf_M_sold_l0_b mc m mk mh mt C mf (zf_M_sold_l0 mc m mk mh mt C mf n) i g A B S = some (g', A', B', S') ∧ _
    unfold zf_M_sold_l0_b
    rw [if_pos (by omega), e0, zl_b, ze_M_isTold (by rw [k126]; exact tin.1) (by rw [k126]; exact tin.2), k126, zl_b, zi_w_id (x := i + 1) (by omega) (by omega)]
    have up : ∀ v x, v = ysw L t h u co ro br 119 999 i → x = ysw L t h u co ro br 103 99 i → ∀ j, 0 ≤ j → j < i + 1 → zv_up A i v j = ysw L t h u co ro br 119 999 j ∧ zv_up B i x j = ysw L t h u co ro br 103 99 j := fun v x e1 e2 j j0 j1 => by
      by_cases z : j = i
      · subst z; rw [zv_up_s, zv_up_s]; exact ⟨e1, e2⟩
      · rw [zv_up_n z, zv_up_n z]; exact hA j j0 (by omega)
    by_cases q : zs_has 24 t i = 0
    · have hz : ¬ zb t i.toNat = true := fun hh => by
        rw [zs_has1 tin.1 tin.2 i0 (by omega) hh] at q
        exact absurd q (by decide)
      rw [if_pos q, zl_ci i0 (by omega), zl_b, if_pos q]
      refine ih (i + 1) _ _ _ _ n (by omega) (by omega) (by omega) (up _ _ ?_ ?_)
      · unfold ysw; rw [if_neg hz]
      · unfold ysw; rw [if_neg hz]
    · have hz : zb t i.toNat = true := by
        by_cases hh : zb t i.toNat = true
        · exact hh
        · exact absurd (zs_has0 tin.1 tin.2 hh) q
      obtain ⟨d0, d1, d2, -, -⟩ := h3 hz
      have hl : ∀ j, 0 ≤ j → j < 13 → g2 j = yv_lt h u i (br i) (ro i) (yv_st h co i) 0 0 0 j := yv_lt_of ⟨by rw [b0, k128], by rw [b1, k129], b6 6 (by decide) (by decide), b6 7 (by decide) (by decide), b6 8 (by decide) (by decide), b6 9 (by decide) (by decide), b6 10 (by decide) (by decide), b6 11 (by decide) (by decide)⟩ b2 (by rw [b3, d2]) (by rw [b4, d1]) (by rw [b5, d0, k128]; rfl) (b6 12 (by decide) (by decide))
      obtain ⟨S1, e1⟩ := yl_amtM (lt := g2) (k := 119) (high := 999) (S := S) R (.inl rfl) (by decide)
      obtain ⟨S2, e2⟩ := yl_amtM (lt := g2) (k := 103) (high := 99) (S := S1) R (.inr (.inl rfl)) (by decide)
      rw [if_neg q, e1, zl_b, zl_ci i0 (by omega), zl_b, if_neg q, e2, zl_b]
      refine ih (i + 1) _ _ _ _ n (by omega) (by omega) (by omega) (up _ _ ?_ ?_)
      · unfold ysw
        rw [if_pos hz]
        exact yl_amt_c R (.inl rfl) hl
      · unfold ysw
        rw [if_pos hz]
        exact yl_amt_c R (.inr (.inl rfl)) hl
theorem yo_sold (R : yl_R L K V nc tS tL sP lP kd fr hf to mc C mk mf mh mt) (k : yk_sky t h u cl sc sr ch co ro br wc wr m) {a b f5 : Int} {g0 g1 g2 g10 g13 g14 q0 q2 q3 q8 q10 : Int → Int} :
    ∃ r f5' g0' g1' g2' g10' g13' g14' q0' q2' q3' q8' q10', zf_X_sold a b h u t nc f5 g0 g1 g2 br ro co kd hf to K g10 V fr g13 g14 = some (r, f5', g0', g1', g2', g10', g13', g14') ∧ zf_M_sold a b mc q0 m q2 q3 mk mh mt C q8 mf q10 = some (r, q0', q2', q3', q8', q10') := by
  obtain ⟨⟨ht, k126⟩, -⟩ := id k
  unfold zf_X_sold zf_M_sold
  rw [ze_X_isWithin, ze_M_in, zl_b, zl_b]
  by_cases x1 : zs_in a 0 999 = 0
  · rw [if_pos x1, if_pos x1]
    exact ⟨_, _, _, _, _, _, _, _, _, _, _, _, _, rfl, rfl⟩
  rw [if_neg x1, if_neg x1, ze_X_isWithin, ze_M_in, zl_b, zl_b]
  by_cases x2 : zs_in b 0 2 = 0
  · rw [if_pos x2, if_pos x2]
    exact ⟨_, _, _, _, _, _, _, _, _, _, _, _, _, rfl, rfl⟩
  rw [if_neg x2, if_neg x2]
  obtain ⟨a0, a1⟩ := zs_in_ne x1
  obtain ⟨b0, b1⟩ := zs_in_ne x2
  obtain ⟨gA, e0, hgA⟩ := ze_forget (g := g0)
  obtain ⟨f', g', A, B, S', e1, hX⟩ := ysx_weigh_l R k 24 0 f5 (zv_up (zv_up gA 0 h) 1 u) g1 g2 g10 zi_fu (by decide) (by decide) (by decide) ⟨rfl, rfl, hgA 6 (by decide) (by decide), hgA 7 (by decide) (by decide), hgA 8 (by decide) (by decide), hgA 9 (by decide) (by decide), hgA 10 (by decide) (by decide), hgA 11 (by decide) (by decide)⟩ (hgA 12 (by decide) (by decide)) (fun j j0 j1 => by omega)
  obtain ⟨p', G, H, S2, e2, hM⟩ := ysm_weigh_l R k 24 0 q0 q2 q3 q8 zi_fu (by decide) (by decide) (by decide) (fun j j0 j1 => by omega)
  have hR := ysw_R (L := L) (t := t) (h := h) (u := u) (co := co) (ro := ro) (br := br)
  have hu : ∀ i : Nat, i < 24 → ¬ zb t i = true → ysw L t h u co ro br 119 999 i = 0 := fun i hi hz => by
    unfold ysw
    rw [Int.toNat_natCast, if_neg hz]
  obtain ⟨BW, BB, e3⟩ := ys_best hR a0 (by omega : a ≤ 999) hu (g0 := g13) (g1 := g14) (fun i i0 i1 => (hX i i0 i1).2) (fun i i0 i1 => (hX i i0 i1).1)
  obtain ⟨Z, e4, hZ⟩ := ysm_zero (most := a) (by omega) 1000 0 q10 zi_fu (by omega) (by decide) (by omega) (by decide) (fun j j0 j1 => by omega)
  obtain ⟨Tb, e5, hT⟩ := ysm_tab hR a0 (by omega : a ≤ 999) ht k126 hu (fun i i0 i1 => (hM i i0 i1).1) (fun i i0 i1 => (hM i i0 i1).2) 24 0 Z zi_fu rfl (by decide) (fun r j r1 j0 j1 => by
    obtain rfl : r = 0 := by omega
    rw [show 1000 * ((0 : Nat) : Int) + j = j by omega]; exact hZ j j0 j1)
  have e6 := ysm_back hR (by omega : a ≤ 999) hT (fun i i0 i1 => (hM i i0 i1).2) 24 a 0 zi_fu (Nat.le_refl _) a0 (Int.le_refl _) (by decide) z24_0
  have hBz := (ysB_in (w := ysw L t h u co ro br 119 999) (hv := ysw L t h u co ro br 103 99) 24 a (Nat.le_refl _)).1
  have hor : zi_or 0 (ysB (ysw L t h u co ro br 119 999) (ysw L t h u co ro br 103 99) 24 a) = ysB (ysw L t h u co ro br 119 999) (ysw L t h u co ro br 103 99) 24 a := z24_ext (z24_or z24_0 hBz) hBz fun j _ => by rw [zb_or, zb_0, Bool.false_or]
  rw [hor] at e6
  unfold zf_Chooser_weighStars zf_Law_setTime
  rw [e0, zl_b, zl_b, e1, zl_b, zl_b]
  dsimp only
  rw [e3, zl_b, e2, zl_b]
  dsimp only
  rw [e4, zl_b, show zf_M_sold_l2 a m G H zi_fu 0 Z = _ from e5, zl_b, show zf_M_sold_l4 H Tb zi_fu a 0 23 = _ from e6, zl_b]
  dsimp only
  by_cases x3 : b = 0
  · rw [if_pos x3, if_pos x3, (ysx_sum hBz (fun i i0 i1 => (hX i i0 i1).1) (fun i i0 i1 => (hR i i0 i1).1)).1, zl_b, ysS_W 24 a (Nat.le_refl _), zi_w_id (x := 24000 + a) (by omega) (by omega), zl_ci (by omega) (by omega), show 24000 + a = 1000 * ((24 : Nat) : Int) + a by omega, hT 24 a (Nat.le_refl _) a0 (Int.le_refl _)]
    exact ⟨_, _, _, _, _, _, _, _, _, _, _, _, _, rfl, rfl⟩
  rw [if_neg x3, if_neg x3]
  by_cases x4 : b = 1
  · rw [if_pos x4, if_pos x4]
    exact ⟨_, _, _, _, _, _, _, _, _, _, _, _, _, rfl, rfl⟩
  · rw [if_neg x4, if_neg x4]
    have hv := ysV_in hR 24 a (Nat.le_refl _) a0
    rw [(ysx_sum hBz (fun i i0 i1 => (hX i i0 i1).2) (fun i i0 i1 => ⟨(hR i i0 i1).2.1, by have := (hR i i0 i1).2.2; omega⟩)).2, zl_b, ysS_V 24 a (Nat.le_refl _)]
    rw [show a - (a - ysV (ysw L t h u co ro br 119 999) (ysw L t h u co ro br 103 99) 24 a) = ysV (ysw L t h u co ro br 119 999) (ysw L t h u co ro br 103 99) 24 a by omega, zi_w_id (by omega) (by omega)]
    exact ⟨_, _, _, _, _, _, _, _, _, _, _, _, _, rfl, rfl⟩
end YSX2
end
section
/-! named: both sides answer. -/
section YWN
variable {L : zLW} {K V kd fr hf to C mk mf mh mt : Int → Int} {nc tS tL sP lP mc : Int} {t h u cl sc sr ch : Int} {co ro br wc wr m : Int → Int} {T M : Int → Int}
theorem yw_pairs {i n : Int} {g : Int → Int} (n0 : 0 ≤ n) (n1 : n ≤ 8) : zh_ok (zf_Chooser_pairsApart i n g) fun _ => True := by
  refine zh_bind (Q := fun _ => True) (zh_loop (F := fun f j (a : Int × Int) => zf_Chooser_pairsApart_l0 i n g f a.1 a.2 j) (N := n) (I := fun _ _ => True) (fun f j a j0 j1 _ kk => ?_) 8 0 (0, 0) zi_fu (by omega) (by decide) n0 (by decide) trivial) fun _ _ => zh_ret trivial
  show zh_ok (zf_Chooser_pairsApart_l0_b i n g (zf_Chooser_pairsApart_l0 i n g f) a.1 a.2 j) _
  unfold zf_Chooser_pairsApart_l0_b
  refine zh_ite (fun hi => ?_) fun _ => zh_ret trivial
  rw [zi_w_id (x := j + 1) (by omega) (by omega)]
  refine zh_bind (Q := fun _ => True) (zh_loop (F := fun f q (a : Int × Int) => zf_Chooser_pairsApart_l1 i j g f a.1 a.2 q) (N := j) (I := fun _ _ => True) (fun f q a q0 q1 _ k2 => ?_) 8 0 (a.1, a.2) zi_fu (by omega) (by decide) j0 (by decide) trivial) fun o _ => kk (_, _) hi trivial
  show zh_ok (zf_Chooser_pairsApart_l1_b i j g (zf_Chooser_pairsApart_l1 i j g f) a.1 a.2 q) _
  unfold zf_Chooser_pairsApart_l1_b
  refine zh_ite (fun hq => ?_) fun _ => zh_ret trivial
  rw [zi_w_id (x := q + 1) (by omega) (by omega)]
  have k3 : ∀ x y, zh_ok (zf_Chooser_pairsApart_l1 i j g f x y (q + 1)) _ := fun x y => k2 (x, y) hq trivial
  exact zh_cond (zi_ix_of j0 (by omega)) (zh_cond (zi_ix_of q0 (by omega)) (zh_ite (fun _ => k3 _ _) fun _ => k3 _ _))
theorem yw_cover {g0 g1 : Int → Int} : ∀ (n w : Nat) (x1 x2 x3 : Int), x1 < n → x1 ≤ 100 → 0 < n → zh_ok (zg_Chooser_leastCover n w x1 x2 x3 g0 g1) fun _ => True := by
  intro n
  induction n with
  | zero => intro w x1 x2 x3 h h2 h3; omega
  | succ n ih =>
    intro w x1 x2 x3 h h2 h3
    show zh_ok (zm_Chooser_leastCover (zg_Chooser_leastCover n) x1 x2 x3 g0 g1) _
    unfold zm_Chooser_leastCover
    refine zh_ite (fun hx => ?_) fun _ => zh_ite (fun _ => zh_ret trivial) fun _ => zh_ret trivial
    refine zh_sum (Q := fun _ => True) (zh_loop (F := fun f i (_ : Unit) => zm_Chooser_leastCover_l0 (zg_Chooser_leastCover n) x1 x2 x3 g0 g1 f i) (N := 24) (I := fun _ _ => True) (fun f i a i0 i1 _ kk => ?_) 24 0 () zi_fu (by decide) (by decide) (by decide) (by decide) trivial) (fun _ _ => zh_ret trivial) fun _ _ => zh_ret trivial
    show zh_ok (zm_Chooser_leastCover_l0_b (zg_Chooser_leastCover n) x1 x2 x3 g0 g1 (zm_Chooser_leastCover_l0 (zg_Chooser_leastCover n) x1 x2 x3 g0 g1 f) i) _
    unfold zm_Chooser_leastCover_l0_b
    refine zh_ite (fun _ => zh_ite (fun hi => ?_) fun _ => zh_ret trivial) fun _ => zh_ret trivial
    rw [zi_w_id (x := i + 1) (by omega) (by omega), zi_w_id (x := x1 - 1) (by omega) (by omega)]
    exact zh_cond (zi_ix_of i0 (by omega)) (zh_ite (fun _ => kk () hi trivial) fun _ => zh_ite (fun _ => zh_bind (ih 0 (x1 - 1) _ _ (by omega) (by omega) (by omega)) fun r _ => zh_ite (fun _ => kk () hi trivial) fun _ => zh_ret trivial) fun _ => kk () hi trivial)
theorem yw_fewN {n : Int} {g0 g1 g2 : Int → Int} (n0 : 0 ≤ n) (n1 : n ≤ 8) : zh_ok (zf_Chooser_fewestNamed n g0 g1 g2) fun _ => True := by
  unfold zf_Chooser_fewestNamed
  rw [ze_Math_min, zl_b, show (if 8 < n then (8 : Int) else n) = n from if_neg (by omega)]
  refine zh_bind (Q := fun _ => True) (zh_loop (F := fun f i (a : Int × (Int → Int) × (Int → Int)) => zf_Chooser_fewestNamed_l0 n g1 f a.1 i a.2.1 a.2.2) (N := 24) (I := fun _ _ => True) (fun f i a i0 i1 _ kk => ?_) 24 0 (0, g0, g2) zi_fu (by decide) (by decide) (by decide) (by decide) trivial) fun q10 _ => zh_bind zh_bc fun r11 _ => zh_ite (fun _ => zh_sum (Q := fun _ => True) (zh_loop (F := fun f i (_ : Unit) => zf_Chooser_fewestNamed_l2 n q10.1 q10.2.1 q10.2.2 f i) (N := 9) (I := fun _ _ => True) (fun f i a i0 i1 _ kk => ?_) 9 1 () zi_fu (by decide) (by decide) (by decide) (by decide) trivial) (fun _ _ => zh_ret trivial) fun _ _ => zh_ret trivial) fun _ => zh_ret trivial
  · show zh_ok (zf_Chooser_fewestNamed_l0_b n g1 (zf_Chooser_fewestNamed_l0 n g1 f) a.1 i a.2.1 a.2.2) _
    unfold zf_Chooser_fewestNamed_l0_b
    refine zh_ite (fun hi => ?_) fun _ => zh_ret trivial
    rw [zi_w_id (x := i + 1) (by omega) (by omega)]
    refine zh_bind (yw_pairs n0 n1) fun r3 _ => zh_cond (zi_ix_of i0 (by omega)) (zh_bind (Q := fun _ => True) (zh_loop (F := fun f j (a : Int → Int) => zf_Chooser_fewestNamed_l1 i f j a) (N := i) (I := fun _ _ => True) (fun f j a j0 j1 _ k2 => ?_) 24 0 _ zi_fu (by omega) (by decide) i0 (by decide) trivial) fun q9 _ => kk (_, _, _) hi trivial)
    show zh_ok (zf_Chooser_fewestNamed_l1_b i (zf_Chooser_fewestNamed_l1 i f) j a) _
    unfold zf_Chooser_fewestNamed_l1_b
    refine zh_ite (fun hj => ?_) fun _ => zh_ret trivial
    rw [zi_w_id (x := j + 1) (by omega) (by omega)]
    exact zh_cond (zi_ix_of j0 (by omega)) (zh_cond (zi_ix_of i0 (by omega)) (zh_ite (fun _ => k2 _ hj trivial) fun _ => k2 _ hj trivial))
  · show zh_ok (zf_Chooser_fewestNamed_l2_b n q10.1 q10.2.1 q10.2.2 (zf_Chooser_fewestNamed_l2 n q10.1 q10.2.1 q10.2.2 f) i) _
    unfold zf_Chooser_fewestNamed_l2_b
    refine zh_ite (fun hi => ?_) fun _ => zh_ret trivial
    rw [zi_w_id (x := i + 1) (by omega) (by omega)]
    exact zh_bind (yw_cover 9 0 i 24 _ (by omega) (by omega) (by decide)) fun r14 _ => zh_ite (fun _ => kk () (by omega) trivial) fun _ => zh_ret trivial
theorem yw_namedX (R : yl_R L K V nc tS tL sP lP kd fr hf to mc C mk mf mh mt) (k : yk_sky t h u cl sc sr ch co ro br wc wr m) (hT : yk_T T M) {a w n f4 f5 f6 f9 f15 f17 : Int} {g0 g2 g10 g12 g13 g14 : Int → Int} :
    zh_ok (zf_X_named a w n f4 f5 f6 h u f9 t sc sr cl tS f15 nc f17 sP g0 T g2 co ro br kd hf to K g10 V g12 g13 g14) fun o => o.2.1 = if zs_in a 2 8 = 0 then n else if zs_in w 0 1 = 0 then n else if n < 2 * a then n else 0 := by
  unfold zf_X_named
  rw [ze_X_isWithin, zl_b]
  refine zh_ite (fun q => zh_ret (by rw [if_pos q])) fun q => ?_
  rw [if_neg q, ze_X_isWithin, zl_b]
  obtain ⟨a1, a2⟩ := zs_in_ne q
  refine zh_ite (fun q2 => zh_ret (by rw [if_pos q2])) fun q2 => ?_
  rw [if_neg q2, zi_w_id (x := 2 * a) (by omega) (by omega)]
  unfold zf_Tape_take
  by_cases c : n < 2 * a
  · rw [if_pos c, zl_b, if_pos rfl, if_pos c]
    exact zh_ret rfl
  rw [if_neg c, zl_b, if_neg (show ¬ (1 : Int) = 0 by decide), if_neg c]
  obtain ⟨g0', e0, h0⟩ := ze_open (f := f4) (g := g0)
  rw [e0, zl_b]
  dsimp only
  refine zh_sum (Q := fun q => match q with
    | .inl _ => True
    | .inr b => b.2.1 = 0) (zh_loop (F := fun n i (b : Int × Int × Int × Int × Int × Int × (Int → Int) × (Int → Int) × (Int → Int)) => zf_X_named_l0 a 0 h u t sc sr cl tS nc sP g0' T co ro br kd hf to K V g13 g14 n i b.1 b.2.1 b.2.2.1 b.2.2.2.1 b.2.2.2.2.1 b.2.2.2.2.2.1 b.2.2.2.2.2.2.1 b.2.2.2.2.2.2.2.1 b.2.2.2.2.2.2.2.2) (N := a)
      (I := fun _ b => yv_ca L sP h u co ro br b.1 b.2.2.2.2.1) (fun n i b i0 i1 hb kk => ?_) 8 0 (0, f5, f6, f9, f15, f17, g2, g10, g12) zi_fu (by omega) (by decide) (by omega) (by decide) yv_ca0) (fun b _ => zh_bind (yw_fewN (by omega) (by omega)) fun r _ => zh_ite (fun _ => zh_ret rfl) fun _ => zh_ite (fun _ => zh_bind zh_bc fun _ _ => zh_ret rfl) fun _ => zh_ret rfl) fun b hb => zh_ret hb
  obtain ⟨b1, b2, b3, b4, b5, b6, b7, b8, b9⟩ := b
  have hb : yv_ca L sP h u co ro br b1 b5 := hb
  show zh_ok (zf_X_named_l0_b a 0 h u t sc sr cl tS nc sP g0' T co ro br kd hf to K V g13 g14 (zf_X_named_l0 a 0 h u t sc sr cl tS nc sP g0' T co ro br kd hf to K V g13 g14 n) i b1 b2 b3 b4 b5 b6 b7 b8 b9) _
  unfold zf_X_named_l0_b
  refine zh_ite (fun hi => ?_) fun _ => zh_ret trivial
  rw [zi_w_id (x := 2 * i) (by omega) (by omega), zi_w_id (x := 2 * i + 1) (by omega) (by omega), zi_w_id (x := i + 1) (by omega) (by omega), ze_byteAt (by omega) (by omega), zl_b, ze_byteAt (by omega) (by omega), zl_b, ze_X_isPlace, zl_b]
  refine zh_ite (fun _ => zh_ret rfl) fun q3 => ?_
  obtain ⟨x1, x2, y1, y2⟩ := zs_pl_ne q3
  obtain ⟨s', as', ho', a', g', S', e1, -, c1⟩ := yx_look (f2 := b2) (f3 := b3) (f6 := b4) (f := b6) (g := b7) (S := b8) (x := T (2 * i)) (y := T (2 * i + 1)) R k x1 (by omega) y1 (by omega) hb
  rw [e1, zl_b]
  dsimp only
  have k2 : ∀ d1 d2 d3 d4 d5 d6 d7 d8 d9, yv_ca L sP h u co ro br d1 d5 → zh_ok (zf_X_named_l0 a 0 h u t sc sr cl tS nc sP g0' T co ro br kd hf to K V g13 g14 n (i + 1) d1 d2 d3 d4 d5 d6 d7 d8 d9) _ := fun d1 d2 d3 d4 d5 d6 d7 d8 d9 q => kk (d1, d2, d3, d4, d5, d6, d7, d8, d9) hi q
  exact zh_cond (zi_ix_of i0 (by omega)) (k2 _ _ _ _ _ _ _ _ _ c1)
theorem yw_apart {s f : Int} {g : Int → Int} (f1 : f ≤ 28) : zh_ok (zf_M_tellsApart s f g) fun _ => True := by
  unfold zf_M_tellsApart
  refine zh_sum (Q := fun _ => True) (zh_loop (F := fun n i (_ : Unit) => zf_M_tellsApart_l0 s f g n i) (N := 28) (I := fun _ _ => True) (fun n i a i0 i1 _ kk => ?_) 28 0 () zi_fu (by decide) (by decide) (by decide) (by decide) trivial) (fun _ _ => zh_ret trivial) fun _ _ => zh_ret trivial
  show zh_ok (zf_M_tellsApart_l0_b s f g (zf_M_tellsApart_l0 s f g n) i) _
  unfold zf_M_tellsApart_l0_b
  refine zh_ite (fun hi => ?_) fun _ => zh_ret trivial
  rw [zi_w_id (x := i + 1) (by omega) (by omega)]
  exact zh_cond (zi_ix_of i0 (by omega)) (zh_ite (fun _ => zh_ret trivial) fun _ => kk () (by omega) trivial)
theorem yw_leastOf {q f : Int} {g0 g1 : Int → Int} (q1 : 1 ≤ q) (q2 : q ≤ 7) (f1 : f ≤ 28) : zh_ok (zf_M_leastOf q f g0 g1) fun _ => True := by
  unfold zf_M_leastOf
  have hst : 0 < zi_w (zi_shl 1 q - 1) := by
    have : ∀ q : Nat, q < 8 → 1 ≤ q → 0 < zi_w (zi_shl 1 (q : Int) - 1) := by decide +kernel
    have h := this q.toNat (by omega) (by omega)
    rwa [Int.toNat_of_nonneg (by omega)] at h
  refine zh_sum (Q := fun _ => True) (zh_loop2 (F := fun n (a : Int) => zf_M_leastOf_l0 f g0 g1 n a) (μ := fun a => (16777216 - a).toNat) (I := fun a => 0 < a) (fun n a ha kk => ?_) 16777216 _ zi_fu (by omega) (by decide) hst) (fun _ _ => zh_ret trivial) fun _ _ => zh_ret trivial
  show zh_ok (zf_M_leastOf_l0_b f g0 g1 (zf_M_leastOf_l0 f g0 g1 n) a) _
  unfold zf_M_leastOf_l0_b
  refine zh_ite (fun hi => zh_ite (fun _ => zh_bind (yw_apart f1) fun r5 _ => zh_ite (fun _ => ?_) fun _ => zh_ret trivial) fun _ => ?_) fun _ => zh_ret trivial
  · exact zw_gos ha hi fun v v1 v2 => kk v (by omega) (by omega)
  · exact zw_gos ha hi fun v v1 v2 => kk v (by omega) (by omega)
theorem yw_places {n : Int} {g : Int → Int} (hT : yk_T T M) (n0 : 0 ≤ n) (n1 : n ≤ 8) : zh_ok (zf_M_takesPlaces n M g) fun o => o.1 = 0 ∨ ∀ j, 0 ≤ j → j < n → 0 ≤ o.2 j ∧ o.2 j < 288 := by
  unfold zf_M_takesPlaces
  refine zh_sum (Q := fun q => match q with
    | .inl a => ∀ j, 0 ≤ j → j < n → 0 ≤ a j ∧ a j < 288
    | .inr b => b.1 = 0) (zh_loop (F := fun f i (a : Int → Int) => zf_M_takesPlaces_l0 n M f i a) (N := n) (I := fun i a => ∀ j, 0 ≤ j → j < i → 0 ≤ a j ∧ a j < 288) (fun f i a i0 i1 ha kk => ?_) 8 0 g zi_fu (by omega) (by decide) n0 (by decide) (fun j j0 j1 => by omega)) (fun a ha => zh_ret (.inr ha)) fun b hb => zh_ret (.inl hb)
  show zh_ok (zf_M_takesPlaces_l0_b n M (zf_M_takesPlaces_l0 n M f) i a) _
  unfold zf_M_takesPlaces_l0_b
  refine zh_ite (fun hi => ?_) fun hi => ?_
  rotate_left
  · obtain rfl : i = n := by omega
    exact zh_ret ha
  obtain ⟨T1, -, -⟩ := hT (2 * i) (by omega) (by omega)
  obtain ⟨T2, -, -⟩ := hT (2 * i + 1) (by omega) (by omega)
  rw [zi_w_id (x := 2 * i) (by omega) (by omega), zi_w_id (x := 2 * i + 1) (by omega) (by omega), zi_w_id (x := i + 1) (by omega) (by omega), T1, T2, ze_M_isPlace, zl_b]
  refine zh_cond (zi_ix_of (by omega) (by omega)) (zh_cond (zi_ix_of (by omega) (by omega)) (zh_ite (fun _ => zh_ret rfl) fun q3 => ?_))
  obtain ⟨x1, x2, y1, y2⟩ := zs_pl_ne q3
  rw [zi_w_id (x := 24 * T (2 * i + 1)) (by omega) (by omega), zi_w_id (x := 24 * T (2 * i + 1) + T (2 * i)) (by omega) (by omega)]
  refine zh_cond (zi_ix_of i0 (by omega)) (zh_sum (Q := fun q => match q with
    | .inl _ => True
    | .inr b => b.1 = 0) (zh_loop (F := fun f j (_ : Unit) => zf_M_takesPlaces_l1 i (zv_up a i (24 * T (2 * i + 1) + T (2 * i))) f j) (N := i) (I := fun _ _ => True) (fun f j _ j0 j1 _ k2 => ?_) 8 0 () zi_fu (by omega) (by decide) i0 (by decide) trivial) (fun _ _ => kk _ hi fun j j0 j1 => ?_) fun b hb => zh_ret hb)
  · show zh_ok (zf_M_takesPlaces_l1_b i (zv_up a i (24 * T (2 * i + 1) + T (2 * i))) (zf_M_takesPlaces_l1 i (zv_up a i (24 * T (2 * i + 1) + T (2 * i))) f) j) _
    unfold zf_M_takesPlaces_l1_b
    refine zh_ite (fun hj => ?_) fun _ => zh_ret trivial
    rw [zi_w_id (x := j + 1) (by omega) (by omega)]
    exact zh_cond (zi_ix_of j0 (by omega)) (zh_cond (zi_ix_of i0 (by omega)) (zh_ite (fun _ => zh_ret rfl) fun _ => k2 () hj trivial))
  · by_cases z : j = i
    · subst z; rw [zv_up_s]; omega
    · rw [zv_up_n z]; exact ha j j0 (by omega)
theorem yw_namedM (R : yl_R L K V nc tS tL sP lP kd fr hf to mc C mk mf mh mt) (k : yk_sky t h u cl sc sr ch co ro br wc wr m) (hT : yk_T T M) {a w n f1 : Int} {g1 g2 g5 g9 : Int → Int} :
    zh_ok (zf_M_named a w n f1 mc M g1 g2 m mk g5 mh mt C g9) fun o => o.2.1 = if zs_in a 2 8 = 0 then n else if zs_in w 0 1 = 0 then n else if n < 2 * a then n else 0 := by
  unfold zf_M_named
  rw [ze_M_in, zl_b]
  refine zh_ite (fun q => zh_ret (by rw [if_pos q])) fun q => ?_
  rw [if_neg q, ze_M_in, zl_b]
  obtain ⟨a1, a2⟩ := zs_in_ne q
  refine zh_ite (fun q2 => zh_ret (by rw [if_pos q2])) fun q2 => ?_
  rw [if_neg q2, zi_w_id (x := 2 * a) (by omega) (by omega)]
  refine zh_ite (fun c => zh_ret (by rw [if_pos c])) fun c => ?_
  rw [if_neg c]
  refine zh_bind (yw_places hT (by omega) (by omega)) fun r6 h6 => zh_ite (fun _ => zh_ret rfl) fun hne => ?_
  have h6 := h6.resolve_left hne
  refine zh_sum (Q := fun q => match q with
    | .inl b => b.1 ≤ 28
    | .inr b => b.2.1 = 0) (zh_loop (F := fun f i (b : Int × (Int → Int) × (Int → Int) × (Int → Int)) => zf_M_named_l0 a 0 mc r6.2 m mk mh mt C f i b.1 b.2.1 b.2.2.1 b.2.2.2) (N := a) (I := fun i b => 0 ≤ b.1 ∧ 2 * b.1 ≤ i * (15 - i)) (fun f i b i0 i1 hb kk => ?_) 8 0 (0, g2, g5, g9) zi_fu (by omega) (by decide) (by omega) (by decide) ⟨Int.le_refl 0, Int.le_refl 0⟩) (fun b hb => ?_) fun b hb => zh_ret hb
  · obtain ⟨b1, b2, b3, b4⟩ := b
    obtain ⟨hb0, hb⟩ := hb
    have hb0 : 0 ≤ b1 := hb0
    have hb : 2 * b1 ≤ i * (15 - i) := hb
    show zh_ok (zf_M_named_l0_b a 0 mc r6.2 m mk mh mt C (zf_M_named_l0 a 0 mc r6.2 m mk mh mt C f) i b1 b2 b3 b4) _
    unfold zf_M_named_l0_b
    have hcs : i = 0 ∨ i = 1 ∨ i = 2 ∨ i = 3 ∨ i = 4 ∨ i = 5 ∨ i = 6 ∨ i = 7 ∨ i = 8 := by omega
    refine zh_ite (fun hi => ?_) fun hi => ?_
    rotate_left
    · refine zh_ret ?_
      show b1 ≤ 28
      rcases hcs with e | e | e | e | e | e | e | e | e <;> subst e <;> omega
    obtain ⟨c2, hc2⟩ : ∃ c, c = i * (15 - i) := ⟨_, rfl⟩
    have hc3 : c2 + 2 * (7 - i) ≤ 56 := by
      rcases hcs with e | e | e | e | e | e | e | e | e <;> subst e <;> omega
    have hc4 : (i + 1) * (15 - (i + 1)) = c2 + 14 - 2 * i := by
      rcases hcs with e | e | e | e | e | e | e | e | e <;> subst e <;> omega
    rw [← hc2] at hb
    rw [zi_w_id (x := i + 1) (by omega) (by omega)]
    refine zh_sum (Q := fun q => match q with
      | .inl b => 0 ≤ b.1 ∧ 2 * b.1 ≤ c2 + 14 - 2 * i
      | .inr b => b.2.1 = 0) (zh_loop (F := fun f j (b : Int × (Int → Int) × (Int → Int) × (Int → Int)) => zf_M_named_l1 a i 0 mc r6.2 m mk mh mt C f j b.1 b.2.1 b.2.2.1 b.2.2.2) (N := a) (I := fun j b => i < j ∧ 0 ≤ b.1 ∧ 2 * b.1 ≤ c2 + 2 * (j - i - 1)) (fun f j b j0 j1 hb kk2 => ?_) 8 (i + 1) (b1, b2, b3, b4) zi_fu (by omega) (by omega) (by omega) (by decide) ⟨by omega, hb0, by show 2 * b1 ≤ c2 + 2 * (i + 1 - i - 1); omega⟩) (fun b hb => kk (b.1, b.2.1, b.2.2.1, b.2.2.2) hi ⟨hb.1, by show 2 * b.1 ≤ (i + 1) * (15 - (i + 1)); rw [hc4]; exact hb.2⟩) fun b hb => zh_ret hb
    obtain ⟨d1, d2, d3, d4⟩ := b
    obtain ⟨hd, hd0, hd1⟩ := hb
    have hd0 : 0 ≤ d1 := hd0
    have hd1 : 2 * d1 ≤ c2 + 2 * (j - i - 1) := hd1
    show zh_ok (zf_M_named_l1_b a i 0 mc r6.2 m mk mh mt C (zf_M_named_l1 a i 0 mc r6.2 m mk mh mt C f) j d1 d2 d3 d4) _
    unfold zf_M_named_l1_b
    refine zh_ite (fun hj => ?_) fun hj => zh_ret ⟨hd0, by show 2 * d1 ≤ c2 + 14 - 2 * i; omega⟩
    obtain ⟨p1, p2⟩ := h6 i i0 hi
    obtain ⟨q1, q2⟩ := h6 j (by omega) hj
    obtain ⟨s', g', S', e1, -⟩ := ym_seen (g := d3) (S := d4) R k p1 p2
    obtain ⟨s2, g3, S3, e2, -⟩ := ym_seen (g := g') (S := S') R k q1 q2
    rw [zl_ci i0 (by omega), e1, zl_b]
    dsimp only
    rw [zl_ci (a := j) (by omega) (by omega), e2, zl_b, zi_w_id (x := j + 1) (by omega) (by omega), zi_w_id (x := d1 + 1) (by omega) (by omega)]
    exact zh_cond (zi_ix_of hd0 (by omega)) (zh_ite (fun _ => zh_ret rfl) fun _ => kk2 (_, _, _, _) hj ⟨by omega, by show 0 ≤ d1 + 1; omega, by show 2 * (d1 + 1) ≤ c2 + 2 * (j + 1 - i - 1); omega⟩)
  · obtain ⟨b1, b2, b3, b4⟩ := b
    have hb : b1 ≤ 28 := hb
    refine zh_sum (Q := fun q => match q with
      | .inl _ => True
      | .inr b => b.2.1 = 0) (zh_loop (F := fun f i (_ : Unit) => zf_M_named_l2 a w 0 b1 r6.2 b2 m b3 b4 f i) (N := a) (I := fun i _ => 1 ≤ i) (fun f i _ i0 i1 hi1 kk => ?_) 8 1 () zi_fu (by omega) (by decide) (by omega) (by decide) (by decide)) (fun _ _ => zh_ret rfl) fun b hb => zh_ret hb
    show zh_ok (zf_M_named_l2_b a w 0 b1 r6.2 b2 m b3 b4 (zf_M_named_l2 a w 0 b1 r6.2 b2 m b3 b4 f) i) _
    unfold zf_M_named_l2_b
    refine zh_ite (fun hi => ?_) fun _ => zh_ret trivial
    rw [zi_w_id (x := i + 1) (by omega) (by omega)]
    exact zh_bind (yw_leastOf hi1 (by omega) hb) fun r22 _ => zh_ite (fun _ => kk () hi (by omega)) fun _ => zh_ite (fun _ => zh_ret rfl) fun _ => zh_ret rfl
end YWN
end
section
/-! fastest, byTwo: both sides answer. -/
section YWS
variable {L : zLW} {K V kd fr hf to C mk mf mh mt : Int → Int} {nc tS tL sP lP mc : Int} {t h u cl sc sr ch ts p i s : Int} {co ro br wc wr m gp gl : Int → Int}
def yw_rg (N : Int) (g : Int → Int) : Prop := ∀ j, 0 ≤ j → j < N → 0 ≤ g j ∧ g j < 288
theorem yw_rg_up {N k v : Int} {g : Int → Int} (h : yw_rg N g) (v0 : 0 ≤ v) (v1 : v < 288) : yw_rg N (zv_up g k v) := fun j j0 j1 => by
  by_cases e : j = k
  · subst e; rw [zv_up_s]; exact ⟨v0, v1⟩
  · rw [zv_up_n e]; exact h j j0 j1
def yw_mo (t cl sc sr ch ts : Int) (br wc wr gl m : Int → Int) : Prop := ∃ h u co ro gp, yk_sky t h u cl sc sr ch co ro br wc wr m ∧ yk_sea ts gp gl m
theorem yw_mo_cg {m2 : Int → Int} (h : yw_mo t cl sc sr ch ts br wc wr gl m) (e : ∀ j, 0 ≤ j → j < 422 → m2 j = m j) : yw_mo t cl sc sr ch ts br wc wr gl m2 := by
  obtain ⟨h, u, co, ro, gp, k, z⟩ := h
  exact ⟨h, u, co, ro, gp, yk_sky_cg k (fun _ _ _ => rfl) (fun _ _ _ => rfl) (fun _ _ _ => rfl) (fun _ _ _ => rfl) (fun _ _ _ => rfl) e, yk_sea_cg z (fun _ _ _ => rfl) (fun _ _ _ => rfl) e⟩
theorem ym_steer (R : yl_R L K V nc tS tL sP lP kd fr hf to mc C mk mf mh mt) (hm : yw_mo t cl sc sr ch ts br wc wr gl m) (s0 : 0 ≤ s) (s1 : s < 6) (i1 : 0 ≤ i) (i2 : i < 24) (hti : zb t i.toNat = true) {g S : Int → Int} :
    zh_ok (zf_M_steers s i 0 mc m mk g mh mt C S mf) fun o => yw_mo t cl sc sr ch ts br wc wr gl o.1 := by
  obtain ⟨h, u, co, ro, gp, k, z⟩ := hm
  obtain ⟨p1, p2⟩ := z.2 s s0 s1
  obtain ⟨-, -, -, -, -, -, -, ki⟩ := id k
  obtain ⟨⟨-, ⟨r1, r2⟩, -⟩, -, -⟩ := ki i i1 i2
  obtain ⟨g', S', e1⟩ := ym_steersFrom (g := g) (S := S) R k z p1 p2 i1 i2 hti
  have hq : 0 ≤ (if yv_see L tS h u cl sc sr co ro br (gp s % 24) (gp s / 24) i = true then yg_st gl (gp s) (yg_tr (gp s % 24) (yv_st h co i)) (ro i - gp s / 24) else gp s) ∧ (if yv_see L tS h u cl sc sr co ro br (gp s % 24) (gp s / 24) i = true then yg_st gl (gp s) (yg_tr (gp s % 24) (yv_st h co i)) (ro i - gp s / 24) else gp s) < 288 := by
    split
    · exact yg_st_in p1 p2 (by omega) (by omega)
    · exact ⟨p1, p2⟩
  generalize (if yv_see L tS h u cl sc sr co ro br (gp s % 24) (gp s / 24) i = true then yg_st gl (gp s) (yg_tr (gp s % 24) (yv_st h co i)) (ro i - gp s / 24) else gp s) = q at e1 hq
  have z2 := yk_sea_up z s0 s1 hq.1 hq.2
  have k2 : yk_sky t h u cl sc sr ch co ro br wc wr (zv_up m (120 + s) q) := yk_sky_fr k fun j hj => zv_up_n (by omega)
  obtain ⟨h', u', co', ro', m', e2, e3, k3, e4⟩ := yk_pass k2
  have z3 : yk_sea ts (zv_up gp s q) gl m' := yk_sea_fr z2 fun j hj => e4 j (by omega) (by omega) (by omega)
  unfold zf_M_steers
  rw [if_pos rfl, zi_w_id (x := 120 + s) (by omega) (by omega), zl_ci (by omega) (by omega), z.1.2.2.2.1 s s0 s1, e1, zl_b]
  dsimp only
  rw [e3, zl_b]
  exact zh_ret ⟨h', u', co', ro', _, k3, z3⟩
theorem yw_comesBy (R : yl_R L K V nc tS tL sP lP kd fr hf to mc C mk mf mh mt) (hm : yw_mo t cl sc sr ch ts br wc wr gl m) (s0 : 0 ≤ s) (s1 : s < 6) (i1 : 0 ≤ i) (i2 : i < 24) (hti : zb t i.toNat = true) {n : Int} (n0 : 0 ≤ n) (n1 : n ≤ 48) {g S : Int → Int} :
    zh_ok (zf_M_comesBy s i p n mc m mk g mh mt C S mf) fun o => yw_mo t cl sc sr ch ts br wc wr gl o.2.1 := by
  unfold zf_M_comesBy
  refine zh_sum (Q := fun q => match q with
    | .inl a => yw_mo t cl sc sr ch ts br wc wr gl a.1
    | .inr b => yw_mo t cl sc sr ch ts br wc wr gl b.2.1) (zh_loop (F := fun f j (a : (Int → Int) × (Int → Int) × (Int → Int)) => zf_M_comesBy_l0 s i p n mc mk mh mt C mf f j a.1 a.2.1 a.2.2) (N := n + 1) (I := fun _ a => yw_mo t cl sc sr ch ts br wc wr gl a.1) (fun f j a j0 j1 ha kk => ?_) 49 0 (m, g, S) zi_fu (by omega) (by decide) (by omega) (by decide) hm) (fun a ha => zh_ret ha) fun b hb => zh_ret hb
  show zh_ok (zf_M_comesBy_l0_b s i p n mc mk mh mt C mf (zf_M_comesBy_l0 s i p n mc mk mh mt C mf f) j a.1 a.2.1 a.2.2) _
  unfold zf_M_comesBy_l0_b
  refine zh_ite (fun _ => zh_ret ha) fun hj => ?_
  rw [zi_w_id (x := 120 + s) (by omega) (by omega), zi_w_id (x := j + 1) (by omega) (by omega)]
  exact zh_cond (zi_ix_of (by omega) (by omega)) (zh_ite (fun _ => zh_ret ha) fun _ => zh_ite (fun _ => zh_bind (ym_steer R ha s0 s1 i1 i2 hti) fun r5 h5 => kk (_, _, _) (by omega) h5) fun _ => kk (_, _, _) (by omega) ha)
theorem yw_fastestM (R : yl_R L K V nc tS tL sP lP kd fr hf to mc C mk mf mh mt) (k : yk_sky t h u cl sc sr ch co ro br wc wr m) (z : yk_sea ts gp gl m) {x y n w : Int} {aA g S : Int → Int} :
    zh_ok (zf_M_fastest s x y n w mc m aA mk g mh mt C S mf) fun o => ∀ j, 0 ≤ j → j < 422 → o.2.1 j = m j := by
  obtain ⟨⟨ht, k126⟩, -⟩ := id k
  obtain ⟨⟨t1, t2, e127, -⟩, hb⟩ := id z
  have tin : 0 ≤ t ∧ t ≤ 2147483647 := ⟨ht.1, by have := ht.2; omega⟩
  unfold zf_M_fastest
  rw [ze_M_isShip (by omega) (by omega), zl_b, e127]
  refine zh_ite (fun _ => zh_ret fun _ _ _ => rfl) fun q1 => ?_
  rw [ze_M_isPlace, zl_b]
  refine zh_ite (fun _ => zh_ret fun _ _ _ => rfl) fun q2 => ?_
  rw [ze_M_in, zl_b]
  refine zh_ite (fun _ => zh_ret fun _ _ _ => rfl) fun q3 => ?_
  rw [ze_M_in, zl_b]
  refine zh_ite (fun _ => zh_ret fun _ _ _ => rfl) fun q4 => zh_ite (fun _ => zh_ret fun _ _ _ => rfl) fun q5 => ?_
  obtain ⟨s0, s1, -⟩ := zs_has_ne q1
  obtain ⟨n0, n1⟩ := zs_in_ne q3
  obtain ⟨mA, e1, hA⟩ := ze_begins (g0 := m) (g := aA)
  rw [e1, zl_b, zl_b, zi_w_id (x := 120 + s) (by omega) (by omega)]
  have hmA : yw_mo t cl sc sr ch ts br wc wr gl mA := yw_mo_cg ⟨h, u, co, ro, gp, k, z⟩ hA
  have lp : ∀ a b q, zh_ok (zf_M_fastest_l0 s n q mc mA mk mh mt C mf zi_fu a b 0 m g S) fun _ => True := fun a b q => by
    refine zh_loop (F := fun f i (a : Int × Int × (Int → Int) × (Int → Int) × (Int → Int)) => zf_M_fastest_l0 s n q mc mA mk mh mt C mf f a.1 a.2.1 i a.2.2.1 a.2.2.2.1 a.2.2.2.2) (N := 24) (I := fun _ _ => True) (fun f i a i0 i1 _ kk => ?_) 24 0 (a, b, m, g, S) zi_fu (by decide) (by decide) (by decide) (by decide) trivial
    obtain ⟨a1, a2, a3, a4, a5⟩ := a
    show zh_ok (zf_M_fastest_l0_b s n q mc mA mk mh mt C mf (zf_M_fastest_l0 s n q mc mA mk mh mt C mf f) a1 a2 i a3 a4 a5) _
    unfold zf_M_fastest_l0_b
    refine zh_ite (fun hi => ?_) fun _ => zh_ret trivial
    obtain ⟨mB, e2, hB⟩ := ze_again (g0 := mA) (g := a3)
    have hmB := yw_mo_cg hmA hB
    have b126 : mB 126 = t := by rw [hB 126 (by decide) (by decide), hA 126 (by decide) (by decide), k126]
    rw [e2, zl_b, ze_M_isTold (by rw [b126]; exact tin.1) (by rw [b126]; exact tin.2), b126, zl_b, zi_w_id (x := i + 1) (by omega) (by omega)]
    have k2 : ∀ b1 b2 b3 b4 b5, zh_ok (zf_M_fastest_l0 s n q mc mA mk mh mt C mf f b1 b2 (i + 1) b3 b4 b5) fun _ => True := fun b1 b2 b3 b4 b5 => kk (b1, b2, b3, b4, b5) hi trivial
    refine zh_ite (fun _ => k2 _ _ _ _ _) fun q6 => ?_
    have hti : zb t i.toNat = true := by
      by_cases hh : zb t i.toNat = true
      · exact hh
      · exact absurd (zs_has0 tin.1 tin.2 hh) q6
    exact zh_bind (yw_comesBy R hmB s0 s1 i0 hi hti (by omega) (by omega)) fun r18 _ => zh_ite (fun _ => k2 _ _ _ _ _) fun _ => zh_ite (fun _ => k2 _ _ _ _ _) fun _ => zh_ite (fun _ => zh_ite (fun _ => k2 _ _ _ _ _) fun _ => k2 _ _ _ _ _) fun _ => k2 _ _ _ _ _
  have fin : ∀ m2, ∃ m3, zf_M_again mA m2 = some m3 ∧ ∀ j, 0 ≤ j → j < 422 → m3 j = m j := fun m2 => by
    obtain ⟨m3, e3, h3⟩ := ze_again (g0 := mA) (g := m2)
    exact ⟨m3, e3, fun j j0 j1 => by rw [h3 j j0 j1, hA j j0 j1]⟩
  refine zh_cond (zi_ix_of (by omega) (by omega)) (zh_ite (fun _ => zh_bind (lp _ _ _) fun q28 _ => ?_) fun _ => zh_bind (lp _ _ _) fun q28 _ => ?_)
  · obtain ⟨m3, e3, h3⟩ := fin q28.2.2.1
    rw [e3, zl_b]
    exact zh_ite (fun _ => zh_ret h3) fun _ => zh_ite (fun _ => zh_ret h3) fun _ => zh_ret h3
  · obtain ⟨m3, e3, h3⟩ := fin q28.2.2.1
    rw [e3, zl_b]
    exact zh_ite (fun _ => zh_ret h3) fun _ => zh_ite (fun _ => zh_ret h3) fun _ => zh_ret h3
theorem yw_comesTwo (R : yl_R L K V nc tS tL sP lP kd fr hf to mc C mk mf mh mt) {mA m1 : Int → Int} (hm : yw_mo t cl sc sr ch ts br wc wr gl mA) (s0 : 0 ≤ s) (s1 : s < 6) {a b q v w : Int} (a0 : 0 ≤ a) (a1 : a < 24) (ha : zb t a.toNat = true) (b0 : 0 ≤ b) (b1 : b < 24) (hb : zb t b.toNat = true) (v0 : 0 ≤ v) (v1 : v ≤ 12) (w0 : 0 ≤ w) (w1 : w ≤ 12) {g S : Int → Int} :
    zh_ok (zf_M_comesByTwo s q a v b w mc mA m1 mk g mh mt C S mf) fun _ => True := by
  unfold zf_M_comesByTwo
  obtain ⟨mB, e2, hB⟩ := ze_again (g0 := mA) (g := m1)
  rw [e2, zl_b]
  refine zh_bind (Q := fun q => yw_mo t cl sc sr ch ts br wc wr gl q.1) (zh_loop (F := fun f j (c : (Int → Int) × (Int → Int) × (Int → Int)) => zf_M_comesByTwo_l0 s a v mc mk mh mt C mf f j c.1 c.2.1 c.2.2) (N := v) (I := fun _ c => yw_mo t cl sc sr ch ts br wc wr gl c.1) (fun f j c j0 j1 hc kk => ?_) 12 0 (mB, g, S) zi_fu (by omega) (by decide) v0 (by decide) (yw_mo_cg hm hB)) fun q4 h4 => zh_bind (Q := fun q => yw_mo t cl sc sr ch ts br wc wr gl q.1) (zh_loop (F := fun f j (c : (Int → Int) × (Int → Int) × (Int → Int)) => zf_M_comesByTwo_l1 s b w mc mk mh mt C mf f j c.1 c.2.1 c.2.2) (N := w) (I := fun _ c => yw_mo t cl sc sr ch ts br wc wr gl c.1) (fun f j c j0 j1 hc kk => ?_) 12 0 (q4.1, q4.2.1, q4.2.2) zi_fu (by omega) (by decide) w0 (by decide) h4) fun q7 _ => ?_
  · show zh_ok (zf_M_comesByTwo_l0_b s a v mc mk mh mt C mf (zf_M_comesByTwo_l0 s a v mc mk mh mt C mf f) j c.1 c.2.1 c.2.2) _
    unfold zf_M_comesByTwo_l0_b
    refine zh_ite (fun hj => ?_) fun _ => zh_ret hc
    rw [zi_w_id (x := j + 1) (by omega) (by omega)]
    exact zh_bind (ym_steer R hc s0 s1 a0 a1 ha) fun r3 h3 => kk (_, _, _) hj h3
  · show zh_ok (zf_M_comesByTwo_l1_b s b w mc mk mh mt C mf (zf_M_comesByTwo_l1 s b w mc mk mh mt C mf f) j c.1 c.2.1 c.2.2) _
    unfold zf_M_comesByTwo_l1_b
    refine zh_ite (fun hj => ?_) fun _ => zh_ret hc
    rw [zi_w_id (x := j + 1) (by omega) (by omega)]
    exact zh_bind (ym_steer R hc s0 s1 b0 b1 hb) fun r3 h3 => kk (_, _, _) hj h3
  · rw [zi_w_id (x := 120 + s) (by omega) (by omega)]
    exact zh_cond (zi_ix_of (by omega) (by omega)) (zh_ite (fun _ => zh_ret trivial) fun _ => zh_ret trivial)
theorem yw_laysTwo (R : yl_R L K V nc tS tL sP lP kd fr hf to mc C mk mf mh mt) {mA m1 : Int → Int} (hm : yw_mo t cl sc sr ch ts br wc wr gl mA) (ht : mA 126 = t) (s0 : 0 ≤ s) (s1 : s < 6) {q n f1 f2 f3 f4 : Int} (n0 : 2 ≤ n) (n1 : n ≤ 12) {g S : Int → Int} :
    zh_ok (zf_M_laysTwo s q n mc f1 f2 f3 f4 mA m1 mk g mh mt C S mf) fun _ => True := by
  unfold zf_M_laysTwo
  refine zh_sum (Q := fun _ => True) (zh_loop (F := fun f j (c : (Int → Int) × (Int → Int) × (Int → Int)) => zf_M_laysTwo_l0 s q n mc mA mk mh mt C mf f j c.1 c.2.1 c.2.2) (N := n + 1) (I := fun j _ => 2 ≤ j) (fun f j c j0 j1 hj2 kk => ?_) 12 2 (m1, g, S) zi_fu (by omega) (by decide) (by omega) (by decide) (Int.le_refl 2)) (fun _ _ => zh_ret trivial) fun _ _ => zh_ret trivial
  show zh_ok (zf_M_laysTwo_l0_b s q n mc mA mk mh mt C mf (zf_M_laysTwo_l0 s q n mc mA mk mh mt C mf f) j c.1 c.2.1 c.2.2) _
  unfold zf_M_laysTwo_l0_b
  refine zh_ite (fun _ => zh_ret trivial) fun hj => ?_
  rw [zi_w_id (x := j + 1) (by omega) (by omega)]
  refine zh_sum (Q := fun _ => True) (zh_loop (F := fun f a (c : (Int → Int) × (Int → Int) × (Int → Int)) => zf_M_laysTwo_l1 s q j mc mA mk mh mt C mf f a c.1 c.2.1 c.2.2) (N := 24) (I := fun _ _ => True) (fun f a c a0 a1 _ k2 => ?_) 24 0 (_, _, _) zi_fu (by decide) (by decide) (by decide) (by decide) trivial) (fun c _ => kk (_, _, _) (by omega) (by omega)) fun _ _ => zh_ret trivial
  show zh_ok (zf_M_laysTwo_l1_b s q j mc mA mk mh mt C mf (zf_M_laysTwo_l1 s q j mc mA mk mh mt C mf f) a c.1 c.2.1 c.2.2) _
  unfold zf_M_laysTwo_l1_b
  refine zh_ite (fun ha => ?_) fun _ => zh_ret trivial
  rw [zi_w_id (x := a + 1) (by omega) (by omega)]
  refine zh_sum (Q := fun _ => True) (zh_loop (F := fun f v (c : (Int → Int) × (Int → Int) × (Int → Int)) => zf_M_laysTwo_l2 s q j a mc mA mk mh mt C mf f v c.1 c.2.1 c.2.2) (N := j) (I := fun v _ => 1 ≤ v) (fun f v c v0 v1 hv1 k3 => ?_) 13 1 (_, _, _) zi_fu (by omega) (by decide) (by omega) (by decide) (Int.le_refl 1)) (fun c _ => k2 (_, _, _) ha trivial) fun _ _ => zh_ret trivial
  show zh_ok (zf_M_laysTwo_l2_b s q j a mc mA mk mh mt C mf (zf_M_laysTwo_l2 s q j a mc mA mk mh mt C mf f) v c.1 c.2.1 c.2.2) _
  unfold zf_M_laysTwo_l2_b
  refine zh_ite (fun hv => ?_) fun _ => zh_ret trivial
  rw [zi_w_id (x := v + 1) (by omega) (by omega), ht, ze_has2 a0 (by omega), zl_b]
  refine zh_ite (fun _ => zh_ret trivial) fun hta => ?_
  have hta : zb t a.toNat = true := by
    by_cases hh : zb t a.toNat = true
    · exact hh
    · rw [if_neg hh] at hta; exact absurd rfl hta
  refine zh_sum (Q := fun _ => True) (zh_loop (F := fun f b (c : (Int → Int) × (Int → Int) × (Int → Int)) => zf_M_laysTwo_l3 s q j a v mc mA mk mh mt C mf f b c.1 c.2.1 c.2.2) (N := 24) (I := fun _ _ => True) (fun f b c b0 b1 _ k4 => ?_) 24 0 (_, _, _) zi_fu (by decide) (by decide) (by decide) (by decide) trivial) (fun c _ => k3 (_, _, _) hv (by omega)) fun _ _ => zh_ret trivial
  show zh_ok (zf_M_laysTwo_l3_b s q j a v mc mA mk mh mt C mf (zf_M_laysTwo_l3 s q j a v mc mA mk mh mt C mf f) b c.1 c.2.1 c.2.2) _
  unfold zf_M_laysTwo_l3_b
  refine zh_ite (fun hb => ?_) fun _ => zh_ret trivial
  rw [zi_w_id (x := b + 1) (by omega) (by omega), zi_w_id (x := j - v) (by omega) (by omega), ht, ze_has2 b0 (by omega), zl_b]
  refine zh_ite (fun _ => k4 (_, _, _) hb trivial) fun htb => ?_
  have htb : zb t b.toNat = true := by
    by_cases hh : zb t b.toNat = true
    · exact hh
    · rw [if_neg hh] at htb; exact absurd rfl htb
  exact zh_bind (yw_comesTwo R hm s0 s1 a0 ha hta b0 hb htb (by omega) (by omega) (by omega) (by omega)) fun r9 _ => zh_ite (fun _ => k4 (_, _, _) hb trivial) fun _ => zh_ret trivial
theorem yw_byTwoM (R : yl_R L K V nc tS tL sP lP kd fr hf to mc C mk mf mh mt) (k : yk_sky t h u cl sc sr ch co ro br wc wr m) (z : yk_sea ts gp gl m) {x y n w f1 f2 f3 f4 : Int} {aA g S : Int → Int} :
    zh_ok (zf_M_byTwo s x y n w mc f1 f2 f3 f4 m aA mk g mh mt C S mf) fun o => ∀ j, 0 ≤ j → j < 422 → o.2.2.2.2.2.1 j = m j := by
  obtain ⟨⟨ht, k126⟩, -⟩ := id k
  obtain ⟨⟨t1, t2, e127, -⟩, hb⟩ := id z
  unfold zf_M_byTwo
  rw [ze_M_isShip (by omega) (by omega), zl_b, e127]
  refine zh_ite (fun _ => zh_ret fun _ _ _ => rfl) fun q1 => ?_
  rw [ze_M_isPlace, zl_b]
  refine zh_ite (fun _ => zh_ret fun _ _ _ => rfl) fun q2 => ?_
  rw [ze_M_in, zl_b]
  refine zh_ite (fun _ => zh_ret fun _ _ _ => rfl) fun q3 => ?_
  rw [ze_M_in, zl_b]
  refine zh_ite (fun _ => zh_ret fun _ _ _ => rfl) fun q4 => zh_ite (fun _ => zh_ret fun _ _ _ => rfl) fun q5 => ?_
  obtain ⟨s0, s1, -⟩ := zs_has_ne q1
  obtain ⟨n0, n1⟩ := zs_in_ne q3
  obtain ⟨mA, e1, hA⟩ := ze_begins (g0 := m) (g := aA)
  rw [e1, zl_b]
  have hmA : yw_mo t cl sc sr ch ts br wc wr gl mA := yw_mo_cg ⟨h, u, co, ro, gp, k, z⟩ hA
  refine zh_bind (yw_laysTwo R hmA (by rw [hA 126 (by decide) (by decide), k126]) s0 s1 n0 n1) fun r11 _ => ?_
  obtain ⟨m3, e3, h3⟩ := ze_again (g0 := mA) (g := r11.2.2.2.2.2.1)
  have h4 : ∀ j, 0 ≤ j → j < 422 → m3 j = m j := fun j j0 j1 => by rw [h3 j j0 j1, hA j j0 j1]
  rw [e3, zl_b]
  exact zh_ite (fun _ => zh_ret h4) fun _ => zh_ite (fun _ => zh_ret h4) fun _ => zh_ite (fun _ => zh_ret h4) fun _ => zh_ite (fun _ => zh_ret h4) fun _ => zh_ret h4
end YWS
end
section
/-! fastest, byTwo: the class answers; the legs' places stay in the sea. -/
section YWF
variable {L : zLW} {K V kd fr hf to C mk mf mh mt : Int → Int} {nc tS tL sP lP mc : Int} {t h u cl sc sr ch ts p i : Int} {co ro br wc wr m gp gl : Int → Int}
def yw_wo (t h u cl sc sr ch ts : Int) (co ro br wc wr gl : Int → Int) : Prop := ∃ gp m, yk_sky t h u cl sc sr ch co ro br wc wr m ∧ yk_sea ts gp gl m
def yw_rn (g : Int → Int) : Prop := ∀ j, 0 ≤ j → j < 288 → g j = -1 ∨ (0 ≤ g j ∧ g j < 288)
theorem yw_rn_up {k v : Int} {g : Int → Int} (h : yw_rn g) (v0 : 0 ≤ v) (v1 : v < 288) : yw_rn (zv_up g k v) := fun j j0 j1 => by
  by_cases e : j = k
  · subst e; rw [zv_up_s]; exact Or.inr ⟨v0, v1⟩
  · rw [zv_up_n e]; exact h j j0 j1
theorem ze_fill288 {v : Int} {g : Int → Int} : ∃ g2, zf_Arrays_fill_288 v g = some g2 ∧ ∀ i, 0 ≤ i → i < 288 → g2 i = v := by
  obtain ⟨g2, e, a, -⟩ := ze_fill288_l0 (v := v) 288 0 g zi_fu rfl (by decide) (by decide)
  refine ⟨g2, ?_, a⟩
  unfold zf_Arrays_fill_288
  rw [e]; rfl
theorem yw_hs (h1 : 0 ≤ t) (h2 : t ≤ 2147483647) (q : ¬ zs_has 24 t i = 0) : zb t i.toNat = true := by
  rw [← zb_tb2 h1 h2]; exact (zs_has_ne q).2.2
theorem yw_turnX (w : yw_wo t h u cl sc sr ch ts co ro br wc wr gl) {as : Int} {g : Int → Int} : ∃ h' u' co' ro' g', zf_Pilot_turnOnward h u as co wc ro wr g = some (h', u', 0, co', ro', g') ∧ yw_wo t h' u' cl sc sr ch ts co' ro' br wc wr gl := by
  obtain ⟨gp, m, k, z⟩ := w
  obtain ⟨h', u', co', ro', m', e2, -, k3, e4⟩ := yk_pass k
  obtain ⟨g', e5, -⟩ := ze_open (f := as) (g := g)
  refine ⟨h', u', co', ro', g', ?_, gp, m', k3, yk_sea_fr z fun j hj => e4 j (by omega) (by omega) (by omega)⟩
  unfold zf_Pilot_turnOnward
  rw [e2, zl_b, e5, zl_b]
theorem yw_stepX (R : yl_R L K V nc tS tL sP lP kd fr hf to mc C mk mf mh mt) (w : yw_wo t h u cl sc sr ch ts co ro br wc wr gl) (p1 : 0 ≤ p) (p2 : p < 288) (i1 : 0 ≤ i) (i2 : i < 24) (hti : zb t i.toNat = true) {f2 f3 as ho f14 : Int} {g S : Int → Int} (hc : yv_ca L sP h u co ro br as ho) :
    zh_ok (zf_Pilot_step p i f2 f3 h u t sc sr cl tS as ho nc f14 sP g co ro br kd hf to K S V gl) fun o => 0 ≤ o.1 ∧ o.1 < 288 ∧ yv_ca L sP h u co ro br o.2.2.2.1 o.2.2.2.2.1 := by
  obtain ⟨gp, m, k, z⟩ := w
  obtain ⟨-, -, -, -, -, -, -, ki⟩ := id k
  obtain ⟨⟨-, ⟨r1, r2⟩, -⟩, -, -⟩ := ki i i1 i2
  obtain ⟨as', ho', a', g', S', e, hc'⟩ := yx_step (f2 := f2) (f3 := f3) (f14 := f14) (g := g) (S := S) R k z p1 p2 i1 i2 hti hc
  have hq : 0 ≤ (if yv_see L tS h u cl sc sr co ro br (p % 24) (p / 24) i = true then yg_st gl p (yg_tr (p % 24) (yv_st h co i)) (ro i - p / 24) else p) ∧ (if yv_see L tS h u cl sc sr co ro br (p % 24) (p / 24) i = true then yg_st gl p (yg_tr (p % 24) (yv_st h co i)) (ro i - p / 24) else p) < 288 := by
    split
    · exact yg_st_in p1 p2 (by omega) (by omega)
    · exact ⟨p1, p2⟩
  exact ⟨_, e, hq.1, hq.2, hc'⟩
theorem yw_sfl (R : yl_R L K V nc tS tL sP lP kd fr hf to mc C mk mf mh mt) (w : yw_wo t h u cl sc sr ch ts co ro br wc wr gl) {x y as ho a : Int} {G g S : Int → Int} (hc : yv_ca L sP h u co ro br as ho) (hG : yw_rg 24 G) :
    zh_ok (zf_Pilot_stepFirstLegs t x y h u sc sr cl tS as ho nc a sP G g co ro br kd hf to K S V gl) fun o => yv_ca L sP h u co ro br o.2.2.1 o.2.2.2.1 ∧ yw_rg 24 o.2.2.2.2.2.1 := by
  have tin : 0 ≤ t ∧ t ≤ 2147483647 := by obtain ⟨gp, m, ⟨⟨ht, -⟩, -⟩, -⟩ := w; exact ⟨ht.1, by have := ht.2; omega⟩
  unfold zf_Pilot_stepFirstLegs
  refine zh_bind (Q := fun o => yv_ca L sP h u co ro br o.2.2.1 o.2.2.2.1 ∧ yw_rg 24 o.2.2.2.2.2.1) (zh_loop (F := fun f j (b : Int × Int × Int × Int × Int × (Int → Int) × (Int → Int) × (Int → Int)) => zf_Pilot_stepFirstLegs_l0 t h u sc sr cl tS nc sP co ro br kd hf to K V gl f j b.1 b.2.1 b.2.2.1 b.2.2.2.1 b.2.2.2.2.1 b.2.2.2.2.2.1 b.2.2.2.2.2.2.1 b.2.2.2.2.2.2.2) (N := 24) (I := fun _ o => yv_ca L sP h u co ro br o.2.2.1 o.2.2.2.1 ∧ yw_rg 24 o.2.2.2.2.2.1) (fun f j b j0 j1 ha kk => ?_) 24 0 (x, y, as, ho, a, G, g, S) zi_fu (by decide) (by decide) (by decide) (by decide) ⟨hc, hG⟩) fun q hq => zh_ret hq
  obtain ⟨b1, b2, b3, b4, b5, b6, b7, b8⟩ := b
  show zh_ok (zf_Pilot_stepFirstLegs_l0_b t h u sc sr cl tS nc sP co ro br kd hf to K V gl (zf_Pilot_stepFirstLegs_l0 t h u sc sr cl tS nc sP co ro br kd hf to K V gl f) j b1 b2 b3 b4 b5 b6 b7 b8) _
  unfold zf_Pilot_stepFirstLegs_l0_b
  refine zh_ite (fun hj => ?_) fun _ => zh_ret ha
  rw [ze_Sky_hasStar tin.1 tin.2, zl_b, zi_w_id (x := j + 1) (by omega) (by omega)]
  have k2 : ∀ c1 c2 c3 c4 c5 c6 c7 c8, yv_ca L sP h u co ro br c3 c4 → yw_rg 24 c6 → zh_ok (zf_Pilot_stepFirstLegs_l0 t h u sc sr cl tS nc sP co ro br kd hf to K V gl f (j + 1) c1 c2 c3 c4 c5 c6 c7 c8) _ := fun c1 c2 c3 c4 c5 c6 c7 c8 q1 q2 => kk (c1, c2, c3, c4, c5, c6, c7, c8) hj ⟨q1, q2⟩
  refine zh_ite (fun _ => k2 _ _ _ _ _ _ _ _ ha.1 ha.2) fun q => ?_
  have hp := ha.2 j j0 hj
  exact zh_cond (zi_ix_of j0 hj) (zh_bind (yw_stepX R w hp.1 hp.2 j0 hj (yw_hs tin.1 tin.2 q) ha.1) fun r5 h5 => k2 _ _ _ _ _ _ _ _ h5.2.2 (yw_rg_up ha.2 h5.1 h5.2.1))
theorem yw_ffl1 {x4 x7 : Int} (h1 : 0 ≤ t) (h2 : t ≤ 2147483647) {f3 f4 f5 f6 f11 f12 f14 : Int} {g0 g1 g2 g3 g9 g14 : Int → Int} :
    zh_ok (zf_Pilot_findFastest_l1 x4 x7 t f3 f4 f5 f6 f11 f12 f14 g0 g1 g2 g3 g9 g14 zi_fu 0) fun _ => True := by
  refine zh_loop (F := fun f j (_ : Unit) => zf_Pilot_findFastest_l1 x4 x7 t f3 f4 f5 f6 f11 f12 f14 g0 g1 g2 g3 g9 g14 f j) (N := 24) (I := fun _ _ => True) (fun f j b j0 j1 _ kk => ?_) 24 0 () zi_fu (by decide) (by decide) (by decide) (by decide) trivial
  show zh_ok (zf_Pilot_findFastest_l1_b x4 x7 t f3 f4 f5 f6 f11 f12 f14 g0 g1 g2 g3 g9 g14 (zf_Pilot_findFastest_l1 x4 x7 t f3 f4 f5 f6 f11 f12 f14 g0 g1 g2 g3 g9 g14 f) j) _
  unfold zf_Pilot_findFastest_l1_b
  refine zh_ite (fun hj => ?_) fun _ => zh_ret trivial
  rw [ze_Sky_hasStar h1 h2, zl_b, zi_w_id (x := j + 1) (by omega) (by omega)]
  exact zh_ite (fun _ => kk () hj trivial) fun _ => zh_cond (zi_ix_of j0 hj) (zh_ite (fun _ => zh_ret trivial) fun _ => kk () hj trivial)
theorem yw_findF (R : yl_R L K V nc tS tL sP lP kd fr hf to mc C mk mf mh mt) (w : yw_wo t h u cl sc sr ch ts co ro br wc wr gl) {x3 x4 x5 x y as ho a f16 f17 : Int} {G g S A : Int → Int} (hc : yv_ca L sP h u co ro br as ho) (q3 : 0 ≤ x3) (q4 : x3 < 288) (q5 : 0 ≤ x5) (q6 : x5 ≤ 48) :
    zh_ok (zf_Pilot_findFastest x3 x4 x5 t x y h u sc sr cl tS as ho nc a sP f16 f17 G g co ro br kd hf to K S V gl wc wr A) fun _ => True := by
  have tin : 0 ≤ t ∧ t ≤ 2147483647 := by obtain ⟨gp, m, ⟨⟨ht, -⟩, -⟩, -⟩ := w; exact ⟨ht.1, by have := ht.2; omega⟩
  unfold zf_Pilot_findFastest
  refine zh_ite (fun _ => zh_bind (zh_bind zh_bc fun _ _ => zh_ret (P := fun _ => True) trivial) fun _ _ => zh_ret trivial) fun _ => ?_
  obtain ⟨G2, e1, hG⟩ := ze_fill24 (v := x3) (g := G)
  have hG2 : yw_rg 24 G2 := fun j j0 j1 => by rw [hG j j0 j1]; exact ⟨q3, q4⟩
  rw [e1, zl_b]
  refine zh_sum (Q := fun _ => True) (zh_loop (F := fun f j (b : Int × Int × Int × Int × Int × Int × Int × (Int → Int) × (Int → Int) × (Int → Int) × (Int → Int) × (Int → Int) × (Int → Int)) => zf_Pilot_findFastest_l0 x4 x5 t sc sr cl tS nc sP br kd hf to K V gl wc wr f j b.1 b.2.1 b.2.2.1 b.2.2.2.1 b.2.2.2.2.1 b.2.2.2.2.2.1 b.2.2.2.2.2.2.1 b.2.2.2.2.2.2.2.1 b.2.2.2.2.2.2.2.2.1 b.2.2.2.2.2.2.2.2.2.1 b.2.2.2.2.2.2.2.2.2.2.1 b.2.2.2.2.2.2.2.2.2.2.2.1 b.2.2.2.2.2.2.2.2.2.2.2.2) (N := x5 + 1) (I := fun _ o => yw_wo t o.2.2.1 o.2.2.2.1 cl sc sr ch ts o.2.2.2.2.2.2.2.2.2.1 o.2.2.2.2.2.2.2.2.2.2.1 br wc wr gl ∧ yv_ca L sP o.2.2.1 o.2.2.2.1 o.2.2.2.2.2.2.2.2.2.1 o.2.2.2.2.2.2.2.2.2.2.1 br o.2.2.2.2.1 o.2.2.2.2.2.1 ∧ yw_rg 24 o.2.2.2.2.2.2.2.1) (fun f j b j0 j1 ha kk => ?_) 49 1 (x, y, h, u, as, ho, a, G2, g, co, ro, S, A) zi_fu (by omega) (by decide) (by omega) (by decide) ⟨w, hc, hG2⟩) (fun _ _ => zh_ret trivial) fun _ _ => zh_ret trivial
  obtain ⟨b1, b2, b3, b4, b5, b6, b7, b8, b9, b10, b11, b12, b13⟩ := b
  show zh_ok (zf_Pilot_findFastest_l0_b x4 x5 t sc sr cl tS nc sP br kd hf to K V gl wc wr (zf_Pilot_findFastest_l0 x4 x5 t sc sr cl tS nc sP br kd hf to K V gl wc wr f) j b1 b2 b3 b4 b5 b6 b7 b8 b9 b10 b11 b12 b13) _
  unfold zf_Pilot_findFastest_l0_b
  refine zh_ite (fun _ => zh_ret trivial) fun hj => ?_
  rw [zi_w_id (x := j + 1) (by omega) (by omega)]
  obtain ⟨w2, c2, G3⟩ := ha
  refine zh_bind (yw_sfl R w2 c2 G3) fun r4 h4 => zh_sum (Q := fun _ => True) (yw_ffl1 tin.1 tin.2) (fun e _ => ?_) fun _ _ => zh_ret trivial
  obtain ⟨h', u', co', ro', g', e7, w3⟩ := yw_turnX (as := r4.2.2.1) (g := b13) w2
  show zh_ok ((zf_Pilot_turnOnward b3 b4 r4.2.2.1 b10 wc b11 wr b13).bind _) _
  rw [e7, zl_b]
  exact kk (r4.1, r4.2.1, h', u', 0, r4.2.2.2.1, r4.2.2.2.2.1, r4.2.2.2.2.2.1, r4.2.2.2.2.2.2.1, co', ro', r4.2.2.2.2.2.2.2, g') (by omega) ⟨w3, yv_ca0, h4.2⟩
theorem yw_ask {s x y : Int} (h1 : 0 ≤ ts) (h2 : ts ≤ 2147483647) : zh_ok (zf_X_canAskVoyage s x y ts t) fun r => ¬ r = 0 → (0 ≤ s ∧ s < 6) ∧ 0 ≤ x ∧ x < 24 ∧ 0 ≤ y ∧ y < 12 := by
  unfold zf_X_canAskVoyage
  rw [ze_Sea_hasShip h1 h2, zl_b]
  refine zh_ite (fun _ => zh_ret fun q => absurd rfl q) fun q1 => ?_
  rw [ze_X_isPlace, zl_b]
  refine zh_ite (fun _ => zh_ret fun q => absurd rfl q) fun q2 => zh_ite (fun _ => zh_ret fun q => absurd rfl q) fun _ => zh_ret fun _ => ⟨⟨(zs_has_ne q1).1, (zs_has_ne q1).2.1⟩, zs_pl_ne q2⟩
theorem yw_fastestX (R : yl_R L K V nc tS tL sP lP kd fr hf to mc C mk mf mh mt) (k : yk_sky t h u cl sc sr ch co ro br wc wr m) (z : yk_sea ts gp gl m) {s x y n w : Int} {f2 f4 f6 f8 f10 f12 f14 f18 f19 f20 f22 f24 f26 f27 : Int} {g1 g3 g5 g7 g9 g10 g12 g13 g18 : Int → Int} :
    zh_ok (zf_X_fastest s x y n w ts t f2 h f4 u f6 cl f8 sc f10 sr f12 ch f14 f18 f19 f20 tS f22 nc f24 sP f26 f27 co g1 ro g3 br g5 wc g7 wr g9 g10 gp g12 g13 kd hf to K g18 V gl) fun _ => True := by
  obtain ⟨⟨t1, t2, -⟩, hb⟩ := id z
  unfold zf_X_fastest
  refine zh_bind (yw_ask t1 (by omega)) fun r1 h1 => zh_ite (fun _ => zh_ret trivial) fun q1 => ?_
  obtain ⟨⟨s0, s1⟩, x0, x1, y0, y1⟩ := h1 q1
  rw [ze_X_isWithin, zl_b]
  refine zh_ite (fun _ => zh_ret trivial) fun q2 => ?_
  rw [ze_X_isWithin, zl_b]
  refine zh_ite (fun _ => zh_ret trivial) fun q3 => ?_
  obtain ⟨n0, n1⟩ := zs_in_ne q2
  unfold zf_Sky_copyFrom
  rw [zl_b]
  dsimp only
  obtain ⟨gA, e0, h0⟩ := ze_open (f := f18) (g := g10)
  rw [e0, zl_b, ze_X_placeOf x0 x1 y0 y1, zl_b]
  have hp := hb s s0 s1
  have k2 : yk_sky t h u cl sc sr ch (zv_cpy co g1 24) (zv_cpy ro g3 24) (zv_cpy br g5 24) (zv_cpy wc g7 24) (zv_cpy wr g9 24) m := yk_sky_cg k (fun j j1 j2 => zv_cpy_in j2) (fun j j1 j2 => zv_cpy_in j2) (fun j j1 j2 => zv_cpy_in j2) (fun j j1 j2 => zv_cpy_in j2) (fun j j1 j2 => zv_cpy_in j2) (fun _ _ _ => rfl)
  exact zh_cond (zi_ix_of s0 s1) (zh_bind (yw_findF R ⟨gp, m, k2, z⟩ yv_ca0 hp.1 hp.2 (by omega) n1) fun r11 _ => zh_ite (fun _ => zh_ret trivial) fun _ => zh_ite (fun _ => zh_ret trivial) fun _ => zh_ret trivial)
end YWF
end
section
/-! byTwo: the class answers; the legs' places stay in the sea. -/
section YWF2
variable {L : zLW} {K V kd fr hf to C mk mf mh mt : Int → Int} {nc tS tL sP lP mc : Int} {t h u cl sc sr ch ts p i : Int} {co ro br wc wr m gp gl : Int → Int}
theorem yw_lower {x2 : Int} {G : Int → Int} (h1 : 0 ≤ t) (h2 : t ≤ 2147483647) (i0 : 0 ≤ x2) (i1 : x2 < 24) :
    zh_ok (zf_Pilot_isBroughtByLower x2 t G) fun _ => True := by
  unfold zf_Pilot_isBroughtByLower
  refine zh_sum (Q := fun _ => True) (zh_loop (F := fun f j (_ : Unit) => zf_Pilot_isBroughtByLower_l0 x2 t G f j) (N := 24) (I := fun _ _ => True) (fun f j b j0 j1 _ kk => ?_) 24 0 () zi_fu (by decide) (by decide) (by decide) (by decide) trivial) (fun _ _ => zh_ret trivial) fun _ _ => zh_ret trivial
  show zh_ok (zf_Pilot_isBroughtByLower_l0_b x2 t G (zf_Pilot_isBroughtByLower_l0 x2 t G f) j) _
  unfold zf_Pilot_isBroughtByLower_l0_b
  refine zh_ite (fun hj => ?_) fun _ => zh_ret trivial
  rw [ze_Sky_hasStar h1 h2, zl_b, zi_w_id (x := j + 1) (by omega) (by omega)]
  exact zh_ite (fun _ => kk () (by omega) trivial) fun _ => zh_cond (zi_ix_of j0 (by omega)) (zh_cond (zi_ix_of i0 i1) (zh_ite (fun _ => zh_ret trivial) fun _ => kk () (by omega) trivial))
theorem yw_endF {x2 f1 : Int} {G g1 g2 g3 : Int → Int} (h1 : 0 ≤ t) (h2 : t ≤ 2147483647) (hG : yw_rg 24 G) (l0 : 0 ≤ f1) (l1 : f1 ≤ 264) (h3 : yw_rg 264 g3) :
    zh_ok (zf_Pilot_endFirstLegs x2 t f1 G g1 g2 g3) fun o => 0 ≤ o.1 ∧ o.1 ≤ 264 ∧ yw_rg 264 o.2.2.2 := by
  unfold zf_Pilot_endFirstLegs
  refine zh_bind (Q := fun o => 0 ≤ o.1 ∧ o.1 ≤ 264 ∧ yw_rg 264 o.2.2.2) (zh_loop (F := fun f j (b : Int × (Int → Int) × (Int → Int) × (Int → Int)) => zf_Pilot_endFirstLegs_l0 x2 t G f j b.1 b.2.1 b.2.2.1 b.2.2.2) (N := 24) (I := fun _ o => 0 ≤ o.1 ∧ o.1 ≤ 264 ∧ yw_rg 264 o.2.2.2) (fun f j b j0 j1 ha kk => ?_) 24 0 (f1, g1, g2, g3) zi_fu (by decide) (by decide) (by decide) (by decide) ⟨l0, l1, h3⟩) fun q hq => zh_ret hq
  obtain ⟨b1, b2, b3, b4⟩ := b
  obtain ⟨a0, a1, a2⟩ := ha
  dsimp only at a0 a1 a2
  show zh_ok (zf_Pilot_endFirstLegs_l0_b x2 t G (zf_Pilot_endFirstLegs_l0 x2 t G f) j b1 b2 b3 b4) _
  unfold zf_Pilot_endFirstLegs_l0_b
  refine zh_ite (fun hj => ?_) fun _ => zh_ret ⟨a0, a1, a2⟩
  rw [ze_Sky_hasStar h1 h2, zl_b, zi_w_id (x := j + 1) (by omega) (by omega), zi_w_id (x := b1 + 1) (by omega) (by omega)]
  have k2 : ∀ c1 c2 c3 c4, 0 ≤ c1 → c1 ≤ 264 → yw_rg 264 c4 → zh_ok (zf_Pilot_endFirstLegs_l0 x2 t G f (j + 1) c1 c2 c3 c4) _ := fun c1 c2 c3 c4 p1 p2 p3 => kk (c1, c2, c3, c4) hj ⟨p1, p2, p3⟩
  have hp := hG j j0 hj
  exact zh_ite (fun _ => k2 _ _ _ _ a0 a1 a2) fun _ => zh_bind (yw_lower h1 h2 j0 hj) fun r4 _ => zh_ite (fun _ => zh_ite (fun hl => zh_cond (zi_ix_of a0 hl) (zh_cond (zi_ix_of j0 hj) (k2 _ _ _ _ (by omega) (by omega) (yw_rg_up a2 hp.1 hp.2)))) fun _ => k2 _ _ _ _ a0 a1 a2) fun _ => k2 _ _ _ _ a0 a1 a2
theorem yw_fs1 (R : yl_R L K V nc tS tL sP lP kd fr hf to mc C mk mf mh mt) (w : yw_wo t h u cl sc sr ch ts co ro br wc wr gl) {x3 x4 x6 lg best x y as ho a : Int} {lh lf le turns ln g S : Int → Int} (i0 : 0 ≤ x3) (i1 : x3 < 24) (hti : zb t x3.toNat = true) (hl : lg ≤ 264) (hle : yw_rg 264 le) (hc : yv_ca L sP h u co ro br as ho) (ht : yw_rn turns) (hn : yw_rg 264 ln) :
    zh_ok (zf_Pilot_followSecond_l1 x3 x4 x6 lg h u t sc sr cl tS nc sP lh lf co ro br kd hf to K V gl le zi_fu 0 best x y as ho a turns ln g S) fun o => yv_ca L sP h u co ro br o.2.2.2.1 o.2.2.2.2.1 ∧ yw_rg 264 o.2.2.2.2.2.2.2.1 := by
  by_cases hlg : lg < 0
  · show zh_ok (zf_Pilot_followSecond_l1_b x3 x4 x6 lg h u t sc sr cl tS nc sP lh lf co ro br kd hf to K V gl le _ 0 best x y as ho a turns ln g S) _
    unfold zf_Pilot_followSecond_l1_b
    rw [if_neg (by omega)]
    exact zh_ret ⟨hc, hn⟩
  refine zh_loop (F := fun f j (b : Int × Int × Int × Int × Int × Int × (Int → Int) × (Int → Int) × (Int → Int) × (Int → Int)) => zf_Pilot_followSecond_l1 x3 x4 x6 lg h u t sc sr cl tS nc sP lh lf co ro br kd hf to K V gl le f j b.1 b.2.1 b.2.2.1 b.2.2.2.1 b.2.2.2.2.1 b.2.2.2.2.2.1 b.2.2.2.2.2.2.1 b.2.2.2.2.2.2.2.1 b.2.2.2.2.2.2.2.2.1 b.2.2.2.2.2.2.2.2.2) (N := lg) (I := fun _ o => yv_ca L sP h u co ro br o.2.2.2.1 o.2.2.2.2.1 ∧ yw_rn o.2.2.2.2.2.2.1 ∧ yw_rg 264 o.2.2.2.2.2.2.2.1) (fun f j b j0 j1 ha kk => ?_) 264 0 (best, x, y, as, ho, a, turns, ln, g, S) zi_fu (by omega) (by decide) (by omega) (by decide) ⟨hc, ht, hn⟩
  obtain ⟨b1, b2, b3, b4, b5, b6, b7, b8, b9, b10⟩ := b
  obtain ⟨a1, a2, a3⟩ := ha
  dsimp only at a1 a2 a3
  show zh_ok (zf_Pilot_followSecond_l1_b x3 x4 x6 lg h u t sc sr cl tS nc sP lh lf co ro br kd hf to K V gl le (zf_Pilot_followSecond_l1 x3 x4 x6 lg h u t sc sr cl tS nc sP lh lf co ro br kd hf to K V gl le f) j b1 b2 b3 b4 b5 b6 b7 b8 b9 b10) _
  unfold zf_Pilot_followSecond_l1_b
  refine zh_ite (fun hj => ?_) fun _ => zh_ret ⟨a1, a3⟩
  rw [zi_w_id (x := j + 1) (by omega) (by omega)]
  have k2 : ∀ c1 c2 c3 c4 c5 c6 c7 c8 c9 c10, yv_ca L sP h u co ro br c4 c5 → yw_rn c7 → yw_rg 264 c8 → zh_ok (zf_Pilot_followSecond_l1 x3 x4 x6 lg h u t sc sr cl tS nc sP lh lf co ro br kd hf to K V gl le f (j + 1) c1 c2 c3 c4 c5 c6 c7 c8 c9 c10) _ := fun c1 c2 c3 c4 c5 c6 c7 c8 c9 c10 p1 p2 p3 => kk (c1, c2, c3, c4, c5, c6, c7, c8, c9, c10) hj ⟨p1, p2, p3⟩
  have br3 : ∀ (v bb q : Int) c1 c2 c3 c4 c5 c6 c7 c8 c9 c10, yv_ca L sP h u co ro br c4 c5 → yw_rn c7 → yw_rg 264 c8 → zh_ok (if v = x4 then (if b1 = -1 then zf_Pilot_followSecond_l1 x3 x4 x6 lg h u t sc sr cl tS nc sP lh lf co ro br kd hf to K V gl le f (j + 1) bb c2 c3 c4 c5 c6 c7 c8 c9 c10 else (zf_Math_min q bb).bind fun r => zf_Pilot_followSecond_l1 x3 x4 x6 lg h u t sc sr cl tS nc sP lh lf co ro br kd hf to K V gl le f (j + 1) r c2 c3 c4 c5 c6 c7 c8 c9 c10) else zf_Pilot_followSecond_l1 x3 x4 x6 lg h u t sc sr cl tS nc sP lh lf co ro br kd hf to K V gl le f (j + 1) c1 c2 c3 c4 c5 c6 c7 c8 c9 c10) _ := fun v bb q c1 c2 c3 c4 c5 c6 c7 c8 c9 c10 p1 p2 p3 => zh_ite (fun _ => zh_ite (fun _ => k2 _ _ _ _ _ _ _ _ _ _ p1 p2 p3) fun _ => zh_bind (zh_t ze_Math_min) fun r _ => k2 _ _ _ _ _ _ _ _ _ _ p1 p2 p3) fun _ => k2 _ _ _ _ _ _ _ _ _ _ p1 p2 p3
  have stp : ∀ q, 0 ≤ q → q < 288 → zh_ok (zf_Pilot_step q x3 b2 b3 h u t sc sr cl tS b4 b5 nc b6 sP b9 co ro br kd hf to K b10 V gl) _ := fun q q1 q2 => yw_stepX R w q1 q2 i0 i1 hti a1
  have e1 := hle j j0 (by omega)
  have e2 := a3 j j0 (by omega)
  refine zh_cond (zi_ix_of j0 (by omega)) (zh_ite (fun _ => zh_ite (fun _ => zh_cond (zi_ix_of e1.1 e1.2) (zh_ite (fun _ => zh_bind (stp _ e1.1 e1.2) fun r h5 => ?_) fun hne => ?_)) fun _ => zh_cond (zi_ix_of e2.1 e2.2) (zh_ite (fun _ => zh_bind (stp _ e2.1 e2.2) fun r h5 => ?_) fun hne => ?_)) fun _ => zh_ret ⟨a1, a3⟩)
  · exact br3 _ _ _ _ _ _ _ _ _ _ _ _ _ h5.2.2 (yw_rn_up a2 h5.1 h5.2.1) (yw_rg_up a3 (by rw [zv_up_s]; exact h5.1) (by rw [zv_up_s]; exact h5.2.1))
  · have hv := (a2 _ e1.1 e1.2).resolve_left hne
    exact br3 _ _ _ _ _ _ _ _ _ _ _ _ _ a1 a2 (yw_rg_up a3 hv.1 hv.2)
  · exact br3 _ _ _ _ _ _ _ _ _ _ _ _ _ h5.2.2 (yw_rn_up a2 h5.1 h5.2.1) (yw_rg_up a3 (by rw [zv_up_s]; exact h5.1) (by rw [zv_up_s]; exact h5.2.1))
  · have hv := (a2 _ e2.1 e2.2).resolve_left hne
    exact br3 _ _ _ _ _ _ _ _ _ _ _ _ _ a1 a2 (yw_rg_up a3 hv.1 hv.2)
theorem yw_fs (R : yl_R L K V nc tS tL sP lP kd fr hf to mc C mk mf mh mt) (w : yw_wo t h u cl sc sr ch ts co ro br wc wr gl) {x3 x4 x5 lg best x y as ho a : Int} {lh lf le turns ln g S A : Int → Int} (i0 : 0 ≤ x3) (i1 : x3 < 24) (hti : zb t x3.toNat = true) (n0 : 0 ≤ x5) (n1 : x5 ≤ 12) (hl : lg ≤ 264) (hle : yw_rg 264 le) (hc : yv_ca L sP h u co ro br as ho) (hn : yw_rg 264 ln) :
    zh_ok (zf_Pilot_followSecond x3 x4 x5 best lg x y h u t sc sr cl tS as ho nc a sP turns lh ln lf g co ro br kd hf to K S V gl le wc wr A) fun o => yw_rg 264 o.2.2.2.2.2.2.2.2.2.1 := by
  unfold zf_Pilot_followSecond
  refine zh_bind (Q := fun o => yw_rg 264 o.2.2.2.2.2.2.2.2.2.1) (zh_loop (F := fun f j (b : Int × Int × Int × Int × Int × Int × Int × Int × (Int → Int) × (Int → Int) × (Int → Int) × (Int → Int) × (Int → Int) × (Int → Int) × (Int → Int)) => zf_Pilot_followSecond_l0 x3 x4 x5 lg t sc sr cl tS nc sP lh lf br kd hf to K V gl le wc wr f j b.1 b.2.1 b.2.2.1 b.2.2.2.1 b.2.2.2.2.1 b.2.2.2.2.2.1 b.2.2.2.2.2.2.1 b.2.2.2.2.2.2.2.1 b.2.2.2.2.2.2.2.2.1 b.2.2.2.2.2.2.2.2.2.1 b.2.2.2.2.2.2.2.2.2.2.1 b.2.2.2.2.2.2.2.2.2.2.2.1 b.2.2.2.2.2.2.2.2.2.2.2.2.1 b.2.2.2.2.2.2.2.2.2.2.2.2.2.1 b.2.2.2.2.2.2.2.2.2.2.2.2.2.2) (N := x5 + 1) (I := fun _ o => yw_wo t o.2.2.2.1 o.2.2.2.2.1 cl sc sr ch ts o.2.2.2.2.2.2.2.2.2.2.2.1 o.2.2.2.2.2.2.2.2.2.2.2.2.1 br wc wr gl ∧ yv_ca L sP o.2.2.2.1 o.2.2.2.2.1 o.2.2.2.2.2.2.2.2.2.2.2.1 o.2.2.2.2.2.2.2.2.2.2.2.2.1 br o.2.2.2.2.2.1 o.2.2.2.2.2.2.1 ∧ yw_rg 264 o.2.2.2.2.2.2.2.2.2.1) (fun f j b j0 j1 ha kk => ?_) 12 1 (best, x, y, h, u, as, ho, a, turns, ln, g, co, ro, S, A) zi_fu (by omega) (by decide) (by omega) (by decide) ⟨w, hc, hn⟩) fun q hq => zh_ret hq
  obtain ⟨b1, b2, b3, b4, b5, b6, b7, b8, b9, b10, b11, b12, b13, b14, b15⟩ := b
  obtain ⟨w2, c2, n2⟩ := ha
  dsimp only at w2 c2 n2
  show zh_ok (zf_Pilot_followSecond_l0_b x3 x4 x5 lg t sc sr cl tS nc sP lh lf br kd hf to K V gl le wc wr (zf_Pilot_followSecond_l0 x3 x4 x5 lg t sc sr cl tS nc sP lh lf br kd hf to K V gl le wc wr f) j b1 b2 b3 b4 b5 b6 b7 b8 b9 b10 b11 b12 b13 b14 b15) _
  unfold zf_Pilot_followSecond_l0_b
  refine zh_ite (fun _ => zh_ret n2) fun hj => ?_
  rw [zi_w_id (x := j + 1) (by omega) (by omega)]
  have body : zh_ok ((zf_Arrays_fill_288 (-1) b9).bind fun r3 => ((zf_Pilot_followSecond_l1 x3 x4 j lg b4 b5 t sc sr cl tS nc sP lh lf b12 b13 br kd hf to K V gl le zi_fu 0 b1 b2 b3 b6 b7 b8 r3 b10 b11 b14).bind fun q26 => ((zf_Pilot_turnOnward b4 b5 q26.2.2.2.1 b12 wc b13 wr b15).bind fun r27 => (zf_Pilot_followSecond_l0 x3 x4 x5 lg t sc sr cl tS nc sP lh lf br kd hf to K V gl le wc wr f (j + 1) q26.1 q26.2.1 q26.2.2.1 r27.1 r27.2.1 r27.2.2.1 q26.2.2.2.2.1 q26.2.2.2.2.2.1 q26.2.2.2.2.2.2.1 q26.2.2.2.2.2.2.2.1 q26.2.2.2.2.2.2.2.2.1 r27.2.2.2.1 r27.2.2.2.2.1 q26.2.2.2.2.2.2.2.2.2 r27.2.2.2.2.2)))) fun o => yw_rg 264 o.2.2.2.2.2.2.2.2.2.1 := by
    obtain ⟨gF, e3, hF⟩ := ze_fill288 (v := -1) (g := b9)
    rw [e3, zl_b]
    refine zh_bind (yw_fs1 R w2 i0 i1 hti hl hle c2 (fun j j0 j1 => Or.inl (hF j j0 j1)) n2) fun q26 h26 => ?_
    obtain ⟨h', u', co', ro', g', e7, w3⟩ := yw_turnX (as := q26.2.2.2.1) (g := b15) w2
    rw [e7, zl_b]
    exact kk (q26.1, q26.2.1, q26.2.2.1, h', u', 0, q26.2.2.2.2.1, q26.2.2.2.2.2.1, q26.2.2.2.2.2.2.1, q26.2.2.2.2.2.2.2.1, q26.2.2.2.2.2.2.2.2.1, co', ro', q26.2.2.2.2.2.2.2.2.2, g') (by omega) ⟨w3, yv_ca0, h26.2⟩
  exact zh_ite (fun _ => body) fun _ => zh_ite (fun _ => zh_ret n2) fun _ => body
theorem yw_find2a (R : yl_R L K V nc tS tL sP lP kd fr hf to mc C mk mf mh mt) (w : yw_wo t h u cl sc sr ch ts co ro br wc wr gl) {x6 x y as ho a t0 : Int} {G g S lf lh le A : Int → Int} (h1 : 0 ≤ t0) (h2 : t0 ≤ 2147483647) (n1 : x6 ≤ 12) (n0 : 1 ≤ x6) (hc : yv_ca L sP h u co ro br as ho) (hG : yw_rg 24 G) (hle : yw_rg 264 le) :
    zh_ok (zf_Pilot_findByTwo_l0 x6 t sc sr cl tS nc sP t0 br kd hf to K V gl wc wr zi_fu 1 0 x y h u as ho a G g co ro S lf lh le A) fun o => 0 ≤ o.1 ∧ o.1 ≤ 264 ∧ yw_rg 264 o.2.2.2.2.2.2.2.2.2.2.2.2.2.2.2.1 := by
  refine zh_loop (F := fun f j (b : Int × Int × Int × Int × Int × Int × Int × Int × (Int → Int) × (Int → Int) × (Int → Int) × (Int → Int) × (Int → Int) × (Int → Int) × (Int → Int) × (Int → Int) × (Int → Int)) => zf_Pilot_findByTwo_l0 x6 t sc sr cl tS nc sP t0 br kd hf to K V gl wc wr f j b.1 b.2.1 b.2.2.1 b.2.2.2.1 b.2.2.2.2.1 b.2.2.2.2.2.1 b.2.2.2.2.2.2.1 b.2.2.2.2.2.2.2.1 b.2.2.2.2.2.2.2.2.1 b.2.2.2.2.2.2.2.2.2.1 b.2.2.2.2.2.2.2.2.2.2.1 b.2.2.2.2.2.2.2.2.2.2.2.1 b.2.2.2.2.2.2.2.2.2.2.2.2.1 b.2.2.2.2.2.2.2.2.2.2.2.2.2.1 b.2.2.2.2.2.2.2.2.2.2.2.2.2.2.1 b.2.2.2.2.2.2.2.2.2.2.2.2.2.2.2.1 b.2.2.2.2.2.2.2.2.2.2.2.2.2.2.2.2) (N := x6) (I := fun _ o => yw_wo t o.2.2.2.1 o.2.2.2.2.1 cl sc sr ch ts o.2.2.2.2.2.2.2.2.2.2.1 o.2.2.2.2.2.2.2.2.2.2.2.1 br wc wr gl ∧ yv_ca L sP o.2.2.2.1 o.2.2.2.2.1 o.2.2.2.2.2.2.2.2.2.2.1 o.2.2.2.2.2.2.2.2.2.2.2.1 br o.2.2.2.2.2.1 o.2.2.2.2.2.2.1 ∧ yw_rg 24 o.2.2.2.2.2.2.2.2.1 ∧ 0 ≤ o.1 ∧ o.1 ≤ 264 ∧ yw_rg 264 o.2.2.2.2.2.2.2.2.2.2.2.2.2.2.2.1) (fun f j b j0 j1 ha kk => ?_) 12 1 (0, x, y, h, u, as, ho, a, G, g, co, ro, S, lf, lh, le, A) zi_fu (by omega) (by decide) (by omega) (by decide) ⟨w, hc, hG, Int.le_refl 0, (by decide : (0 : Int) ≤ 264), hle⟩
  obtain ⟨b1, b2, b3, b4, b5, b6, b7, b8, b9, b10, b11, b12, b13, b14, b15, b16, b17⟩ := b
  obtain ⟨w2, c2, G2, l0, l1, le2⟩ := ha
  dsimp only at w2 c2 G2 l0 l1 le2
  show zh_ok (zf_Pilot_findByTwo_l0_b x6 t sc sr cl tS nc sP t0 br kd hf to K V gl wc wr (zf_Pilot_findByTwo_l0 x6 t sc sr cl tS nc sP t0 br kd hf to K V gl wc wr f) j b1 b2 b3 b4 b5 b6 b7 b8 b9 b10 b11 b12 b13 b14 b15 b16 b17) _
  unfold zf_Pilot_findByTwo_l0_b
  refine zh_ite (fun hj => ?_) fun _ => zh_ret ⟨l0, l1, le2⟩
  rw [zi_w_id (x := j + 1) (by omega) (by omega)]
  refine zh_bind (yw_sfl R w2 c2 G2) fun r3 h3 => zh_bind (yw_endF h1 h2 h3.2 l0 l1 le2) fun r4 h4 => ?_
  obtain ⟨h', u', co', ro', g', e7, w3⟩ := yw_turnX (as := r3.2.2.1) (g := b17) w2
  show zh_ok ((zf_Pilot_turnOnward b4 b5 r3.2.2.1 b11 wc b12 wr b17).bind _) _
  rw [e7, zl_b]
  exact kk (r4.1, r3.1, r3.2.1, h', u', 0, r3.2.2.2.1, r3.2.2.2.2.1, r3.2.2.2.2.2.1, r3.2.2.2.2.2.2.1, co', ro', r3.2.2.2.2.2.2.2, r4.2.1, r4.2.2.1, r4.2.2.2, g') hj ⟨w3, yv_ca0, h3.2, h4.1, h4.2.1, h4.2.2⟩
theorem yw_find2b (R : yl_R L K V nc tS tL sP lP kd fr hf to mc C mk mf mh mt) (w : yw_wo t h u cl sc sr ch ts co ro br wc wr gl) {x5 x6 lg e1 e2 e3 e4 e5 e6 e7 e8 e9 e10 e11 e12 e13 : Int} {lf lh le d1 d2 d3 d4 d5 d6 d7 d8 d9 d10 : Int → Int} (n0 : 0 ≤ x6) (n1 : x6 ≤ 12) (hl : lg ≤ 264) (hle : yw_rg 264 le) (hn : yw_rg 264 d10) :
    zh_ok (zf_Pilot_findByTwo_l1 x5 x6 lg tS nc sP t h u cl sc sr ch kd hf to K V gl lf lh le co ro br wc wr zi_fu 0 e1 e2 e3 e4 e5 e6 e7 e8 e9 e10 e11 e12 e13 d1 d2 d3 d4 d5 d6 d7 d8 d9 d10) fun o => yw_rg 264 o.2.2.2.2.2.2.2.2.2.2.2.2.2.2.2.2.2.2.2.2.2.2 := by
  have tin : 0 ≤ t ∧ t ≤ 2147483647 := by obtain ⟨gp, m, ⟨⟨ht, -⟩, -⟩, -⟩ := w; exact ⟨ht.1, by have := ht.2; omega⟩
  refine zh_loop (F := fun f j (b : Int × Int × Int × Int × Int × Int × Int × Int × Int × Int × Int × Int × Int × (Int → Int) × (Int → Int) × (Int → Int) × (Int → Int) × (Int → Int) × (Int → Int) × (Int → Int) × (Int → Int) × (Int → Int) × (Int → Int)) => zf_Pilot_findByTwo_l1 x5 x6 lg tS nc sP t h u cl sc sr ch kd hf to K V gl lf lh le co ro br wc wr f j b.1 b.2.1 b.2.2.1 b.2.2.2.1 b.2.2.2.2.1 b.2.2.2.2.2.1 b.2.2.2.2.2.2.1 b.2.2.2.2.2.2.2.1 b.2.2.2.2.2.2.2.2.1 b.2.2.2.2.2.2.2.2.2.1 b.2.2.2.2.2.2.2.2.2.2.1 b.2.2.2.2.2.2.2.2.2.2.2.1 b.2.2.2.2.2.2.2.2.2.2.2.2.1 b.2.2.2.2.2.2.2.2.2.2.2.2.2.1 b.2.2.2.2.2.2.2.2.2.2.2.2.2.2.1 b.2.2.2.2.2.2.2.2.2.2.2.2.2.2.2.1 b.2.2.2.2.2.2.2.2.2.2.2.2.2.2.2.2.1 b.2.2.2.2.2.2.2.2.2.2.2.2.2.2.2.2.2.1 b.2.2.2.2.2.2.2.2.2.2.2.2.2.2.2.2.2.2.1 b.2.2.2.2.2.2.2.2.2.2.2.2.2.2.2.2.2.2.2.1 b.2.2.2.2.2.2.2.2.2.2.2.2.2.2.2.2.2.2.2.2.1 b.2.2.2.2.2.2.2.2.2.2.2.2.2.2.2.2.2.2.2.2.2.1 b.2.2.2.2.2.2.2.2.2.2.2.2.2.2.2.2.2.2.2.2.2.2) (N := 24) (I := fun _ o => yw_rg 264 o.2.2.2.2.2.2.2.2.2.2.2.2.2.2.2.2.2.2.2.2.2.2) (fun f j b j0 j1 ha kk => ?_) 24 0 (e1, e2, e3, e4, e5, e6, e7, e8, e9, e10, e11, e12, e13, d1, d2, d3, d4, d5, d6, d7, d8, d9, d10) zi_fu (by decide) (by decide) (by decide) (by decide) hn
  obtain ⟨b1, b2, b3, b4, b5, b6, b7, b8, b9, b10, b11, b12, b13, b14, b15, b16, b17, b18, b19, b20, b21, b22, b23⟩ := b
  show zh_ok (zf_Pilot_findByTwo_l1_b x5 x6 lg tS nc sP t h u cl sc sr ch kd hf to K V gl lf lh le co ro br wc wr (zf_Pilot_findByTwo_l1 x5 x6 lg tS nc sP t h u cl sc sr ch kd hf to K V gl lf lh le co ro br wc wr f) j b1 b2 b3 b4 b5 b6 b7 b8 b9 b10 b11 b12 b13 b14 b15 b16 b17 b18 b19 b20 b21 b22 b23) _
  unfold zf_Pilot_findByTwo_l1_b
  refine zh_ite (fun hj => ?_) fun _ => zh_ret ha
  rw [ze_Sky_hasStar tin.1 tin.2, zl_b, zi_w_id (x := j + 1) (by omega) (by omega)]
  have k2 : ∀ c1 c2 c3 c4 c5 c6 c7 c8 c9 c10 c11 c12 c13 c14 c15 c16 c17 c18 c19 c20 c21 c22 c23, yw_rg 264 c23 → zh_ok (zf_Pilot_findByTwo_l1 x5 x6 lg tS nc sP t h u cl sc sr ch kd hf to K V gl lf lh le co ro br wc wr f (j + 1) c1 c2 c3 c4 c5 c6 c7 c8 c9 c10 c11 c12 c13 c14 c15 c16 c17 c18 c19 c20 c21 c22 c23) _ := fun c1 c2 c3 c4 c5 c6 c7 c8 c9 c10 c11 c12 c13 c14 c15 c16 c17 c18 c19 c20 c21 c22 c23 p1 => kk (c1, c2, c3, c4, c5, c6, c7, c8, c9, c10, c11, c12, c13, c14, c15, c16, c17, c18, c19, c20, c21, c22, c23) hj p1
  refine zh_ite (fun _ => k2 _ _ _ _ _ _ _ _ _ _ _ _ _ _ _ _ _ _ _ _ _ _ _ ha) fun q => ?_
  unfold zf_Sky_copyFrom
  rw [zl_b]
  dsimp only
  obtain ⟨gA, e0, h0⟩ := ze_open (f := b9) (g := b21)
  rw [e0, zl_b]
  obtain ⟨gp, m, k, z⟩ := w
  have w2 : yw_wo t h u cl sc sr ch ts (zv_cpy co b15 24) (zv_cpy ro b16 24) (zv_cpy br b17 24) (zv_cpy wc b19 24) (zv_cpy wr b20 24) gl := ⟨gp, m, yk_sky_cg k (fun j j1 j2 => zv_cpy_in j2) (fun j j1 j2 => zv_cpy_in j2) (fun j j1 j2 => zv_cpy_in j2) (fun j j1 j2 => zv_cpy_in j2) (fun j j1 j2 => zv_cpy_in j2) (fun _ _ _ => rfl), z⟩
  exact zh_bind (yw_fs R w2 j0 hj (yw_hs tin.1 tin.2 q) n0 n1 hl hle yv_ca0 ha) fun r12 h12 => k2 _ _ _ _ _ _ _ _ _ _ _ _ _ _ _ _ _ _ _ _ _ _ _ h12
theorem yw_find2 (R : yl_R L K V nc tS tL sP lP kd fr hf to mc C mk mf mh mt) (w : yw_wo t h u cl sc sr ch ts co ro br wc wr gl) {co2 ro2 br2 wc2 wr2 : Int → Int} (w2 : yw_wo t h u cl sc sr ch ts co2 ro2 br2 wc2 wr2 gl) {x4 x5 x6 f0 x y as ho a best ch2 f26 f27 f28 f29 : Int} {G g S lf lh le A turns ln : Int → Int} (q3 : 0 ≤ x4) (q4 : x4 < 288) (n0 : 1 ≤ x6) (n1 : x6 ≤ 12) (hc : yv_ca L sP h u co2 ro2 br2 as ho) (hle : yw_rg 264 le) (hn : yw_rg 264 ln) :
    zh_ok (zf_Pilot_findByTwo x4 x5 x6 f0 t x y h u sc sr cl tS as ho nc a sP t best h u cl sc sr ch ch2 f26 f27 f28 f29 G g co2 ro2 br2 kd hf to K S V gl lf lh le wc2 wr2 A co ro br wc wr turns ln) fun o => yw_rg 264 o.2.2.2.2.2.2.2.2.2.2.2.2.2.2.2.2.2.2.2.2.2.2.2.2.2.2.2.1 ∧ yw_rg 264 o.2.2.2.2.2.2.2.2.2.2.2.2.2.2.2.2.2.2.2.2.2.2.2.2.2.2.2.2.2.2.2.2 := by
  have tin : 0 ≤ t ∧ t ≤ 2147483647 := by obtain ⟨gp, m, ⟨⟨ht, -⟩, -⟩, -⟩ := w; exact ⟨ht.1, by have := ht.2; omega⟩
  unfold zf_Pilot_findByTwo
  obtain ⟨G2, e1, hG⟩ := ze_fill24 (v := x4) (g := G)
  rw [e1, zl_b]
  exact zh_bind (yw_find2a R w2 tin.1 tin.2 n1 n0 hc (fun j j0 j1 => by rw [hG j j0 j1]; exact ⟨q3, q4⟩) hle) fun q6 h6 => zh_bind (yw_find2b R w (by omega) n1 h6.2.1 h6.2.2 hn) fun q13 h13 => zh_ite (fun _ => zh_ret ⟨h6.2.2, h13⟩) fun _ => zh_ret ⟨h6.2.2, h13⟩
theorem yw_byTwoX (R : yl_R L K V nc tS tL sP lP kd fr hf to mc C mk mf mh mt) (k : yk_sky t h u cl sc sr ch co ro br wc wr m) (z : yk_sea ts gp gl m) {s x y n w : Int} {f2 f4 f6 f8 f10 f12 f14 f18 f19 f20 f21 f23 f25 f27 f28 f29 f30 f31 : Int} {g1 g3 g5 g7 g9 g10 g12 g13 g18 g21 g22 g23 g24 g25 : Int → Int} (hle : yw_rg 264 g23) (hn : yw_rg 264 g25) :
    zh_ok (zf_X_byTwo s x y n w ts t f2 h f4 u f6 cl f8 sc f10 sr f12 ch f14 f18 f19 f20 f21 tS f23 nc f25 sP f27 f28 f29 f30 f31 co g1 ro g3 br g5 wc g7 wr g9 g10 gp g12 g13 kd hf to K g18 V gl g21 g22 g23 g24 g25) fun o => yw_rg 264 o.2.2.2.2.2.2.2.2.2.2.2.2.2.2.2.2.2.2.2.2.2.2.2.2.2.2.2.2.2.2.1 ∧ yw_rg 264 o.2.2.2.2.2.2.2.2.2.2.2.2.2.2.2.2.2.2.2.2.2.2.2.2.2.2.2.2.2.2.2.2 := by
  obtain ⟨⟨t1, t2, -⟩, hb⟩ := id z
  unfold zf_X_byTwo
  refine zh_bind (yw_ask t1 (by omega)) fun r1 h1 => zh_ite (fun _ => zh_ret ⟨hle, hn⟩) fun q1 => ?_
  obtain ⟨⟨s0, s1⟩, x0, x1, y0, y1⟩ := h1 q1
  rw [ze_X_isWithin, zl_b]
  refine zh_ite (fun _ => zh_ret ⟨hle, hn⟩) fun q2 => ?_
  rw [ze_X_isWithin, zl_b]
  refine zh_ite (fun _ => zh_ret ⟨hle, hn⟩) fun q3 => ?_
  obtain ⟨n0, n1⟩ := zs_in_ne q2
  unfold zf_Sky_copyFrom
  rw [zl_b]
  dsimp only
  obtain ⟨gA, e0, h0⟩ := ze_open (f := f18) (g := g10)
  rw [e0, zl_b, ze_X_placeOf x0 x1 y0 y1, zl_b]
  have hp := hb s s0 s1
  have k2 : yk_sky t h u cl sc sr ch (zv_cpy co g1 24) (zv_cpy ro g3 24) (zv_cpy br g5 24) (zv_cpy wc g7 24) (zv_cpy wr g9 24) m := yk_sky_cg k (fun j j1 j2 => zv_cpy_in j2) (fun j j1 j2 => zv_cpy_in j2) (fun j j1 j2 => zv_cpy_in j2) (fun j j1 j2 => zv_cpy_in j2) (fun j j1 j2 => zv_cpy_in j2) (fun _ _ _ => rfl)
  exact zh_cond (zi_ix_of s0 s1) (zh_bind (yw_find2 R ⟨gp, m, k, z⟩ ⟨gp, m, k2, z⟩ hp.1 hp.2 (by omega) n1 yv_ca0 hle hn) fun r11 h11 => zh_ite (fun _ => zh_ret h11) fun _ => zh_ite (fun _ => zh_ret h11) fun _ => zh_ite (fun _ => zh_ret h11) fun _ => zh_ite (fun _ => zh_ret h11) fun _ => zh_ret h11)
end YWF2
end
section
/-! log: both sides answer. -/
section YWG
variable {L : zLW} {K V kd fr hf to C mk mf mh mt T M : Int → Int} {nc tS tL sP lP mc : Int} {t h u cl sc sr ch ts p i : Int} {co ro br wc wr m gp gl : Int → Int}
def yw_rv (v : Int) : Prop := v = -1 ∨ (0 ≤ v ∧ v < 288)
theorem yw_rn_u {k v : Int} {g : Int → Int} (h : yw_rn g) (hv : yw_rv v) : yw_rn (zv_up g k v) := fun j j0 j1 => by
  by_cases e : j = k
  · subst e; rw [zv_up_s]; exact hv
  · rw [zv_up_n e]; exact h j j0 j1
theorem yw_go_rv {how : Int} (p1 : 0 ≤ p) (p2 : p < 288) : yw_rv (yg_go p how) := by
  have := yg_go_in (how := how) p1 p2
  unfold yw_rv
  omega
def yw_logS (a w ln n : Int) : Int := if zs_in a 1 12 = 0 then n else if zs_in w 0 1 = 0 then n else if ln = 0 then n else if n < 2 * a then n else 0
theorem yw_move (z : yk_sea ts gp gl m) {how : Int} {g : Int → Int} (hg : yw_rn g) : zh_ok (zf_X_moveSpots how g gl) yw_rn := by
  unfold zf_X_moveSpots
  refine zh_bind (Q := yw_rn) (zh_loop (F := fun f j (b : Int → Int) => zf_X_moveSpots_l0 how gl f j b) (N := 288) (I := fun _ b => yw_rn b) (fun f j b j0 j1 ha kk => ?_) 288 0 g zi_fu (by decide) (by decide) (by decide) (by decide) hg) fun q hq => zh_ret hq
  show zh_ok (zf_X_moveSpots_l0_b how gl (zf_X_moveSpots_l0 how gl f) j b) _
  unfold zf_X_moveSpots_l0_b
  refine zh_ite (fun hj => ?_) fun _ => zh_ret ha
  rw [zi_w_id (x := j + 1) (by omega) (by omega)]
  refine zh_cond (zi_ix_of j0 hj) (zh_ite (fun _ => kk _ hj ha) fun hne => ?_)
  obtain ⟨v0, v1⟩ := (ha j j0 hj).resolve_left hne
  rw [ze_goFrom z v0 v1, zl_b]
  refine kk _ hj (yw_rn_u ha ?_)
  split
  · exact Or.inl rfl
  · exact yw_go_rv v0 v1
theorem yw_lg2X (R : yl_R L K V nc tS tL sP lP kd fr hf to mc C mk mf mh mt) (k : yk_sky t h u cl sc sr ch co ro br wc wr m) {w nn e1 e2 e3 e4 e5 e6 e7 : Int} {nr d1 d2 d3 d4 d5 d6 d7 d8 d9 : Int → Int} (hc : yv_ca L sP h u co ro br e1 e5) (hp : yv_cp L lP h u co ro br d2 d6) (hs : yw_so d9) (hn : yw_rn d1) :
    zh_ok (zf_X_log_l2 w t h u cl sc sr tS nc sP nn tL lP co ro br kd hf to K V nr zi_fu 0 e1 e2 e3 e4 e5 e6 e7 d1 d2 d3 d4 d5 d6 d7 d8 d9) fun o => yw_rn o.2.2.2.2.2.2.2.1 ∧ yw_so o.2.2.2.2.2.2.2.2.2.2.2.2.2.2.2 := by
  refine zh_loop (F := fun f j (b : Int × Int × Int × Int × Int × Int × Int × (Int → Int) × (Int → Int) × (Int → Int) × (Int → Int) × (Int → Int) × (Int → Int) × (Int → Int) × (Int → Int) × (Int → Int)) => zf_X_log_l2 w t h u cl sc sr tS nc sP nn tL lP co ro br kd hf to K V nr f j b.1 b.2.1 b.2.2.1 b.2.2.2.1 b.2.2.2.2.1 b.2.2.2.2.2.1 b.2.2.2.2.2.2.1 b.2.2.2.2.2.2.2.1 b.2.2.2.2.2.2.2.2.1 b.2.2.2.2.2.2.2.2.2.1 b.2.2.2.2.2.2.2.2.2.2.1 b.2.2.2.2.2.2.2.2.2.2.2.1 b.2.2.2.2.2.2.2.2.2.2.2.2.1 b.2.2.2.2.2.2.2.2.2.2.2.2.2.1 b.2.2.2.2.2.2.2.2.2.2.2.2.2.2.1 b.2.2.2.2.2.2.2.2.2.2.2.2.2.2.2) (N := 288) (I := fun _ o => yv_ca L sP h u co ro br o.1 o.2.2.2.2.1 ∧ yv_cp L lP h u co ro br o.2.2.2.2.2.2.2.2.1 o.2.2.2.2.2.2.2.2.2.2.2.2.1 ∧ yw_rn o.2.2.2.2.2.2.2.1 ∧ yw_so o.2.2.2.2.2.2.2.2.2.2.2.2.2.2.2) (fun f j b j0 j1 ha kk => ?_) 288 0 (e1, e2, e3, e4, e5, e6, e7, d1, d2, d3, d4, d5, d6, d7, d8, d9) zi_fu (by decide) (by decide) (by decide) (by decide) ⟨hc, hp, hn, hs⟩
  obtain ⟨b1, b2, b3, b4, b5, b6, b7, b8, b9, b10, b11, b12, b13, b14, b15, b16⟩ := b
  obtain ⟨a1, a2, a3, a4⟩ := ha
  dsimp only at a1 a2 a3 a4
  show zh_ok (zf_X_log_l2_b w t h u cl sc sr tS nc sP nn tL lP co ro br kd hf to K V nr (zf_X_log_l2 w t h u cl sc sr tS nc sP nn tL lP co ro br kd hf to K V nr f) j b1 b2 b3 b4 b5 b6 b7 b8 b9 b10 b11 b12 b13 b14 b15 b16) _
  unfold zf_X_log_l2_b
  refine zh_ite (fun hj => ?_) fun _ => zh_ret ⟨a3, a4⟩
  rw [zi_w_id (x := j + 1) (by omega) (by omega)]
  have k2 : ∀ c1 c2 c3 c4 c5 c6 c7 c8 c9 c10 c11 c12 c13 c14 c15 c16, yv_ca L sP h u co ro br c1 c5 → yv_cp L lP h u co ro br c9 c13 → yw_rn c8 → yw_so c16 → zh_ok (zf_X_log_l2 w t h u cl sc sr tS nc sP nn tL lP co ro br kd hf to K V nr f (j + 1) c1 c2 c3 c4 c5 c6 c7 c8 c9 c10 c11 c12 c13 c14 c15 c16) _ := fun c1 c2 c3 c4 c5 c6 c7 c8 c9 c10 c11 c12 c13 c14 c15 c16 p1 p2 p3 p4 => kk (c1, c2, c3, c4, c5, c6, c7, c8, c9, c10, c11, c12, c13, c14, c15, c16) hj ⟨p1, p2, p3, p4⟩
  refine zh_cond (zi_ix_of j0 hj) (zh_ite (fun _ => k2 _ _ _ _ _ _ _ _ _ _ _ _ _ _ _ _ a1 a2 a3 a4) fun hne => ?_)
  obtain ⟨v0, v1⟩ := (a3 j j0 hj).resolve_left hne
  exact zh_bind (yw_cbtX R k v0 v1 a1 a2 a4) fun r h5 => zh_ite (fun _ => k2 _ _ _ _ _ _ _ _ _ _ _ _ _ _ _ _ h5.1 h5.2.1 a3 h5.2.2) fun _ => k2 _ _ _ _ _ _ _ _ _ _ _ _ _ _ _ _ h5.1 h5.2.1 (yw_rn_u a3 (Or.inl rfl)) h5.2.2
theorem yw_lg1X (R : yl_R L K V nc tS tL sP lP kd fr hf to mc C mk mf mh mt) (w : yw_wo t h u cl sc sr ch ts co ro br wc wr gl) (hT : yk_T T M) {a nn e1 e2 e3 e4 e5 e6 e7 : Int} {nr d1 c1 c2 c3 c4 c5 c6 c7 c8 : Int → Int} (n1 : 0 ≤ a) (n2 : a ≤ 12) (hs : yw_so c8) (hn : yw_rn d1) :
    zh_ok (zf_X_log_l1 a t cl sc sr tS nc sP nn tL lP T gl br wc wr kd hf to K V nr zi_fu 0 h u e1 e2 e3 e4 e5 e6 e7 d1 co ro c1 c2 c3 c4 c5 c6 c7 c8) fun o => yw_so o.2.2.2.2.2.2.2.2.2.2.2.2.2.2.2.2.2.2.2 := by
  refine zh_loop (F := fun f j (b : Int × Int × Int × Int × Int × Int × Int × Int × Int × (Int → Int) × (Int → Int) × (Int → Int) × (Int → Int) × (Int → Int) × (Int → Int) × (Int → Int) × (Int → Int) × (Int → Int) × (Int → Int) × (Int → Int)) => zf_X_log_l1 a t cl sc sr tS nc sP nn tL lP T gl br wc wr kd hf to K V nr f j b.1 b.2.1 b.2.2.1 b.2.2.2.1 b.2.2.2.2.1 b.2.2.2.2.2.1 b.2.2.2.2.2.2.1 b.2.2.2.2.2.2.2.1 b.2.2.2.2.2.2.2.2.1 b.2.2.2.2.2.2.2.2.2.1 b.2.2.2.2.2.2.2.2.2.2.1 b.2.2.2.2.2.2.2.2.2.2.2.1 b.2.2.2.2.2.2.2.2.2.2.2.2.1 b.2.2.2.2.2.2.2.2.2.2.2.2.2.1 b.2.2.2.2.2.2.2.2.2.2.2.2.2.2.1 b.2.2.2.2.2.2.2.2.2.2.2.2.2.2.2.1 b.2.2.2.2.2.2.2.2.2.2.2.2.2.2.2.2.1 b.2.2.2.2.2.2.2.2.2.2.2.2.2.2.2.2.2.1 b.2.2.2.2.2.2.2.2.2.2.2.2.2.2.2.2.2.2.1 b.2.2.2.2.2.2.2.2.2.2.2.2.2.2.2.2.2.2.2) (N := a) (I := fun _ o => yw_wo t o.1 o.2.1 cl sc sr ch ts o.2.2.2.2.2.2.2.2.2.2.1 o.2.2.2.2.2.2.2.2.2.2.2.1 br wc wr gl ∧ yw_rn o.2.2.2.2.2.2.2.2.2.1 ∧ yw_so o.2.2.2.2.2.2.2.2.2.2.2.2.2.2.2.2.2.2.2) (fun f j b j0 j1 ha kk => ?_) 12 0 (h, u, e1, e2, e3, e4, e5, e6, e7, d1, co, ro, c1, c2, c3, c4, c5, c6, c7, c8) zi_fu (by omega) (by decide) n1 (by decide) ⟨w, hn, hs⟩
  obtain ⟨b1, b2, b3, b4, b5, b6, b7, b8, b9, b10, b11, b12, b13, b14, b15, b16, b17, b18, b19, b20⟩ := b
  obtain ⟨w2, a3, a4⟩ := ha
  dsimp only at w2 a3 a4
  show zh_ok (zf_X_log_l1_b a t cl sc sr tS nc sP nn tL lP T gl br wc wr kd hf to K V nr (zf_X_log_l1 a t cl sc sr tS nc sP nn tL lP T gl br wc wr kd hf to K V nr f) j b1 b2 b3 b4 b5 b6 b7 b8 b9 b10 b11 b12 b13 b14 b15 b16 b17 b18 b19 b20) _
  unfold zf_X_log_l1_b
  refine zh_ite (fun hj => ?_) fun _ => zh_ret a4
  rw [zi_w_id (x := j + 1) (by omega) (by omega), zi_w_id (x := 2 * j) (by omega) (by omega), zi_w_id (x := 2 * j + 1) (by omega) (by omega), zi_w_id (x := a - 1) (by omega) (by omega)]
  obtain ⟨gA, e0, h0⟩ := ze_open (f := b3) (g := b13)
  obtain ⟨gp, m, k, z⟩ := w2
  obtain ⟨h', u', co', ro', m', e7, -, k3, e8⟩ := yk_pass k
  have w3 : yw_wo t h' u' cl sc sr ch ts co' ro' br wc wr gl := ⟨gp, m', k3, yk_sea_fr z fun j hj => e8 j (by omega) (by omega) (by omega)⟩
  rw [e0, zl_b, ze_byteAt (by omega) (by omega), zl_b, ze_byteAt (by omega) (by omega)]
  have fin : ∀ q : Int × Int × Int × Int × Int × Int × Int × (Int → Int) × (Int → Int) × (Int → Int) × (Int → Int) × (Int → Int) × (Int → Int) × (Int → Int) × (Int → Int) × (Int → Int), yw_rn q.2.2.2.2.2.2.2.1 ∧ yw_so q.2.2.2.2.2.2.2.2.2.2.2.2.2.2.2 → zh_ok (if j < a - 1 then ((some (T (2 * j + 1))).bind fun r39 => ((zf_X_moveSpots r39 q.2.2.2.2.2.2.2.1 gl).bind fun r40 => ((zf_Sky_passHour b1 b2 b11 wc b12 wr).bind fun r41 => (zf_X_log_l1 a t cl sc sr tS nc sP nn tL lP T gl br wc wr kd hf to K V nr f (j + 1) r41.1 r41.2.1 q.1 q.2.1 q.2.2.1 q.2.2.2.1 q.2.2.2.2.1 q.2.2.2.2.2.1 q.2.2.2.2.2.2.1 r40 r41.2.2.1 r41.2.2.2 q.2.2.2.2.2.2.2.2.1 q.2.2.2.2.2.2.2.2.2.1 q.2.2.2.2.2.2.2.2.2.2.1 q.2.2.2.2.2.2.2.2.2.2.2.1 q.2.2.2.2.2.2.2.2.2.2.2.2.1 q.2.2.2.2.2.2.2.2.2.2.2.2.2.1 q.2.2.2.2.2.2.2.2.2.2.2.2.2.2.1 q.2.2.2.2.2.2.2.2.2.2.2.2.2.2.2)))) else ((zf_Sky_passHour b1 b2 b11 wc b12 wr).bind fun r38 => (zf_X_log_l1 a t cl sc sr tS nc sP nn tL lP T gl br wc wr kd hf to K V nr f (j + 1) r38.1 r38.2.1 q.1 q.2.1 q.2.2.1 q.2.2.2.1 q.2.2.2.2.1 q.2.2.2.2.2.1 q.2.2.2.2.2.2.1 q.2.2.2.2.2.2.2.1 r38.2.2.1 r38.2.2.2 q.2.2.2.2.2.2.2.2.1 q.2.2.2.2.2.2.2.2.2.1 q.2.2.2.2.2.2.2.2.2.2.1 q.2.2.2.2.2.2.2.2.2.2.2.1 q.2.2.2.2.2.2.2.2.2.2.2.2.1 q.2.2.2.2.2.2.2.2.2.2.2.2.2.1 q.2.2.2.2.2.2.2.2.2.2.2.2.2.2.1 q.2.2.2.2.2.2.2.2.2.2.2.2.2.2.2))) fun o => yw_so o.2.2.2.2.2.2.2.2.2.2.2.2.2.2.2.2.2.2.2 := fun q hq => by
    refine zh_ite (fun _ => ?_) fun _ => ?_
    · rw [zl_b]
      refine zh_bind (yw_move z hq.1) fun r40 h40 => ?_
      rw [e7, zl_b]
      exact kk (h', u', q.1, q.2.1, q.2.2.1, q.2.2.2.1, q.2.2.2.2.1, q.2.2.2.2.2.1, q.2.2.2.2.2.2.1, r40, co', ro', q.2.2.2.2.2.2.2.2.1, q.2.2.2.2.2.2.2.2.2.1, q.2.2.2.2.2.2.2.2.2.2.1, q.2.2.2.2.2.2.2.2.2.2.2.1, q.2.2.2.2.2.2.2.2.2.2.2.2.1, q.2.2.2.2.2.2.2.2.2.2.2.2.2.1, q.2.2.2.2.2.2.2.2.2.2.2.2.2.2.1, q.2.2.2.2.2.2.2.2.2.2.2.2.2.2.2) hj ⟨w3, h40, hq.2⟩
    · rw [e7, zl_b]
      exact kk (h', u', q.1, q.2.1, q.2.2.1, q.2.2.2.1, q.2.2.2.2.1, q.2.2.2.2.2.1, q.2.2.2.2.2.2.1, q.2.2.2.2.2.2.2.1, co', ro', q.2.2.2.2.2.2.2.2.1, q.2.2.2.2.2.2.2.2.2.1, q.2.2.2.2.2.2.2.2.2.2.1, q.2.2.2.2.2.2.2.2.2.2.2.1, q.2.2.2.2.2.2.2.2.2.2.2.2.1, q.2.2.2.2.2.2.2.2.2.2.2.2.2.1, q.2.2.2.2.2.2.2.2.2.2.2.2.2.2.1, q.2.2.2.2.2.2.2.2.2.2.2.2.2.2.2) hj ⟨w3, hq.1, hq.2⟩
  exact zh_ite (fun _ => zh_bind (yw_lg2X R k yv_ca0 (yv_cp0 h0) a4 a3) fin) fun _ => zh_bind (yw_lg2X R k yv_ca0 (yv_cp0 h0) a4 a3) fin
theorem yw_lay (z : yk_sea ts gp gl m) (A B : Int → Int) : ∃ A' B', zf_X_log_l0 gl zi_fu 0 A = some A' ∧ zf_M_log_l0 m zi_fu 0 B = some B' ∧ yw_rn A' ∧ yw_rn B' := by
  obtain ⟨A', B', e1, e2, h, -⟩ := yp_lay_l z 288 0 A B zi_fu (by decide) (by decide) (by decide)
  have v : ∀ i, 0 ≤ i → i < 288 → yw_rv (if yg_ld gl i = true then -1 else i) := fun i i0 i1 => by
    unfold yw_rv
    split <;> omega
  exact ⟨A', B', e1, e2, fun i i0 i1 => by rw [(h i i0 i1).1]; exact v i i0 i1, fun i i0 i1 => by rw [(h i i0 i1).2]; exact v i i0 i1⟩
theorem yw_logX (R : yl_R L K V nc tS tL sP lP kd fr hf to mc C mk mf mh mt) (k : yk_sky t h u cl sc sr ch co ro br wc wr m) (z : yk_sea ts gp gl m) (hT : yk_T T M) {a w ln n nn : Int} {f4 f6 f8 f10 f12 f14 f16 f20 f21 f22 f23 f25 f27 f34 : Int} {nr g1 g4 g6 g8 g10 g12 g13 g14 g19 g21 g22 g23 g25 g26 : Int → Int} (hs : yw_so g26) :
    zh_ok (zf_X_log a w ln n t f4 h f6 u f8 cl f10 sc f12 sr f14 ch f16 f20 f21 f22 f23 tS f25 nc f27 sP nn tL lP f34 T g1 gl co g4 ro g6 br g8 wc g10 wr g12 g13 g14 kd hf to K g19 V g21 g22 g23 nr g25 g26) fun o => o.2.1 = yw_logS a w ln n ∧ yw_so o.2.2.2.2.2.2.2.2.2.2.2.2.2.2.2.2.2.2.2.2.2.2.2.2.2.2.2.2.2 := by
  unfold zf_X_log yw_logS
  rw [ze_X_isWithin, zl_b]
  refine zh_ite (fun q => zh_ret ⟨(if_pos q).symm, hs⟩) fun q1 => ?_
  rw [if_neg q1, ze_X_isWithin, zl_b]
  refine zh_ite (fun q => zh_ret ⟨(if_pos q).symm, hs⟩) fun q2 => ?_
  rw [if_neg q2]
  refine zh_ite (fun q => zh_ret ⟨(if_pos q).symm, hs⟩) fun q3 => ?_
  rw [if_neg q3]
  obtain ⟨n1, n2⟩ := zs_in_ne q1
  rw [zi_w_id (x := 2 * a) (by omega) (by omega)]
  unfold zf_Tape_take
  by_cases q4 : n < 2 * a
  · rw [if_pos q4, if_pos q4, zl_b, if_pos rfl]
    exact zh_ret ⟨rfl, hs⟩
  rw [if_neg q4, if_neg q4, zl_b, if_neg (show ¬ (1 : Int) = 0 by decide)]
  have hb : zh_ok (zf_X_isLogBytes a T) fun _ => True := by
    rcases yl_bytes (n := a) hT (by omega) n2 (A := T) (B := T) with ⟨A', B', e, -⟩ | ⟨A', B', e, -⟩
    · exact zh_t e
    · exact zh_t e
  refine zh_bind hb fun r12 _ => zh_ite (fun _ => zh_ret ⟨rfl, hs⟩) fun _ => ?_
  obtain ⟨A', -, e1, -, hA, -⟩ := yw_lay z g1 g1
  rw [e1, zl_b]
  unfold zf_Sky_copyFrom
  rw [zl_b]
  dsimp only
  have w2 : yw_wo t h u cl sc sr ch ts (zv_cpy co g4 24) (zv_cpy ro g6 24) (zv_cpy br g8 24) (zv_cpy wc g10 24) (zv_cpy wr g12 24) gl := ⟨gp, m, yk_sky_cg k (fun j j1 j2 => zv_cpy_in j2) (fun j j1 j2 => zv_cpy_in j2) (fun j j1 j2 => zv_cpy_in j2) (fun j j1 j2 => zv_cpy_in j2) (fun j j1 j2 => zv_cpy_in j2) (fun _ _ _ => rfl), z⟩
  refine zh_bind (yw_lg1X R w2 hT (by omega) n2 hs hA) fun q42 h42 => ?_
  have cf : ∀ B : Int → Int, ∃ c f, zf_X_countSpots B = some c ∧ zf_X_firstSpot B = some f := fun B => by
    obtain ⟨c, f, e2, e3, -⟩ := yp_count (A := B) (B := B) fun _ _ _ => rfl
    exact ⟨c, f, e2, e3⟩
  obtain ⟨c, f, e2, e3⟩ := cf q42.2.2.2.2.2.2.2.2.2.1
  rw [e2, e3, zl_b, zl_b]
  exact zh_ite (fun _ => zh_ret ⟨rfl, h42⟩) fun _ => zh_ret ⟨rfl, h42⟩
end YWG
end
section
/-! log in the reference: it answers; now is restored, the tape taken alike. -/
section YWGM
variable {L : zLW} {K V kd fr hf to C mk mf mh mt T M tf tt : Int → Int} {nc tS tL sP lP mc : Int} {t h u cl sc sr ch ts p i ln nn : Int} {co ro br wc wr m gp gl nr : Int → Int}
theorem yw_lg2M (R : yl_R L K V nc tS tL sP lP kd fr hf to mc C mk mf mh mt) (k : yk_sky t h u cl sc sr ch co ro br wc wr m) (z : yk_sea ts gp gl m) (tl : yk_tl ln nn nr tf tt) (hln : ln ≠ 0) {a x3 f3 f4 : Int} {A B sp d1 d2 d3 d4 d5 d6 : Int → Int} (i0 : 0 ≤ x3) (i1 : x3 < 12) (hn : yw_rn sp) :
    zh_ok (zf_M_log_l2 a x3 ln mc nn A B m mk mh mt C tf tt zi_fu 0 f3 f4 sp d1 d2 d3 d4 d5 d6) fun o => yw_rn o.2.2.1 := by
  refine zh_loop (F := fun f j (b : Int × Int × (Int → Int) × (Int → Int) × (Int → Int) × (Int → Int) × (Int → Int) × (Int → Int) × (Int → Int)) => zf_M_log_l2 a x3 ln mc nn A B m mk mh mt C tf tt f j b.1 b.2.1 b.2.2.1 b.2.2.2.1 b.2.2.2.2.1 b.2.2.2.2.2.1 b.2.2.2.2.2.2.1 b.2.2.2.2.2.2.2.1 b.2.2.2.2.2.2.2.2) (N := 288) (I := fun _ o => yw_rn o.2.2.1) (fun f j b j0 j1 ha kk => ?_) 288 0 (f3, f4, sp, d1, d2, d3, d4, d5, d6) zi_fu (by decide) (by decide) (by decide) (by decide) hn
  obtain ⟨b1, b2, b3, b4, b5, b6, b7, b8, b9⟩ := b
  dsimp only at ha
  show zh_ok (zf_M_log_l2_b a x3 ln mc nn A B m mk mh mt C tf tt (zf_M_log_l2 a x3 ln mc nn A B m mk mh mt C tf tt f) j b1 b2 b3 b4 b5 b6 b7 b8 b9) _
  unfold zf_M_log_l2_b
  refine zh_ite (fun hj => ?_) fun _ => zh_ret ha
  rw [zi_w_id (x := j + 1) (by omega) (by omega), zi_w_id (x := x3 + 1) (by omega) (by omega)]
  have k2 : ∀ c1 c2 c3 c4 c5 c6 c7 c8 c9, yw_rn c3 → zh_ok (zf_M_log_l2 a x3 ln mc nn A B m mk mh mt C tf tt f (j + 1) c1 c2 c3 c4 c5 c6 c7 c8 c9) _ := fun c1 c2 c3 c4 c5 c6 c7 c8 c9 p1 => kk (c1, c2, c3, c4, c5, c6, c7, c8, c9) hj p1
  refine zh_cond (zi_ix_of j0 hj) (zh_ite (fun _ => k2 _ _ _ _ _ _ _ _ _ ha) fun hne => ?_)
  obtain ⟨v0, v1⟩ := (ha j j0 hj).resolve_left hne
  refine zh_bind (yw_cbtM R k tl hln v0 v1) fun r _ => zh_cond (zi_ix_of i0 i1) ?_
  have mv : ∀ v, yw_rv v → ∀ c1 c2 c3 c4 c5 c6 c7 c8, zh_ok (if (zv_up b3 j v) j = -1 then zf_M_log_l2 a x3 ln mc nn A B m mk mh mt C tf tt f (j + 1) c1 c2 (zv_up b3 j v) c3 c4 c5 c6 c7 c8 else ((zf_M_isLand ((zv_up b3 j v) j) m).bind fun q => (if q = 0 then zf_M_log_l2 a x3 ln mc nn A B m mk mh mt C tf tt f (j + 1) c1 c2 (zv_up b3 j v) c3 c4 c5 c6 c7 c8 else zf_M_log_l2 a x3 ln mc nn A B m mk mh mt C tf tt f (j + 1) c1 c2 (zv_up (zv_up b3 j v) j (-1)) c3 c4 c5 c6 c7 c8))) fun o => yw_rn o.2.2.1 := fun v hv c1 c2 c3 c4 c5 c6 c7 c8 => by
    refine zh_ite (fun _ => k2 _ _ _ _ _ _ _ _ _ (yw_rn_u ha hv)) fun q => ?_
    rw [zv_up_s] at q ⊢
    obtain ⟨w0, w1⟩ := hv.resolve_left q
    rw [ze_isLandM z w0 w1, zl_b]
    exact zh_ite (fun _ => k2 _ _ _ _ _ _ _ _ _ (yw_rn_u ha hv)) fun _ => k2 _ _ _ _ _ _ _ _ _ (yw_rn_u (yw_rn_u ha hv) (Or.inl rfl))
  have ls : ∀ c1 c2 c3 c4 c5 c6 c7 c8, zh_ok ((zf_M_isLand (b3 j) m).bind fun q => (if q = 0 then zf_M_log_l2 a x3 ln mc nn A B m mk mh mt C tf tt f (j + 1) c1 c2 b3 c3 c4 c5 c6 c7 c8 else zf_M_log_l2 a x3 ln mc nn A B m mk mh mt C tf tt f (j + 1) c1 c2 (zv_up b3 j (-1)) c3 c4 c5 c6 c7 c8)) fun o => yw_rn o.2.2.1 := fun c1 c2 c3 c4 c5 c6 c7 c8 => by
    rw [ze_isLandM z v0 v1, zl_b]
    exact zh_ite (fun _ => k2 _ _ _ _ _ _ _ _ _ ha) fun _ => k2 _ _ _ _ _ _ _ _ _ (yw_rn_u ha (Or.inl rfl))
  rw [ze_goesTo v0 v1, zl_b]
  exact zh_ite (fun _ => zh_ite (fun _ => zh_ite (fun _ => mv _ (yw_go_rv v0 v1) _ _ _ _ _ _ _ _) fun _ => ls _ _ _ _ _ _ _ _) fun _ => mv _ (Or.inl rfl) _ _ _ _ _ _ _ _) fun _ => zh_ite (fun _ => zh_ite (fun _ => mv _ (yw_go_rv v0 v1) _ _ _ _ _ _ _ _) fun _ => ls _ _ _ _ _ _ _ _) fun _ => mv _ (Or.inl rfl) _ _ _ _ _ _ _ _
theorem yw_lg1M (R : yl_R L K V nc tS tL sP lP kd fr hf to mc C mk mf mh mt) (hm : yw_mo t cl sc sr ch ts br wc wr gl m) (tl : yk_tl ln nn nr tf tt) (hln : ln ≠ 0) {a f3 f4 : Int} {A B sp d1 d2 d3 d4 d5 d6 : Int → Int} (n0 : 0 ≤ a) (n1 : a ≤ 12) (hn : yw_rn sp) :
    zh_ok (zf_M_log_l1 a ln mc nn A B mk mh mt C tf tt zi_fu 0 f3 f4 sp m d1 d2 d3 d4 d5 d6) fun _ => True := by
  refine zh_loop (F := fun f j (b : Int × Int × (Int → Int) × (Int → Int) × (Int → Int) × (Int → Int) × (Int → Int) × (Int → Int) × (Int → Int) × (Int → Int)) => zf_M_log_l1 a ln mc nn A B mk mh mt C tf tt f j b.1 b.2.1 b.2.2.1 b.2.2.2.1 b.2.2.2.2.1 b.2.2.2.2.2.1 b.2.2.2.2.2.2.1 b.2.2.2.2.2.2.2.1 b.2.2.2.2.2.2.2.2.1 b.2.2.2.2.2.2.2.2.2) (N := a) (I := fun _ o => yw_rn o.2.2.1 ∧ yw_mo t cl sc sr ch ts br wc wr gl o.2.2.2.1) (fun f j b j0 j1 ha kk => ?_) 12 0 (f3, f4, sp, m, d1, d2, d3, d4, d5, d6) zi_fu (by omega) (by decide) n0 (by decide) ⟨hn, hm⟩
  obtain ⟨b1, b2, b3, b4, b5, b6, b7, b8, b9, b10⟩ := b
  obtain ⟨ha, hm2⟩ := ha
  dsimp only at ha hm2
  show zh_ok (zf_M_log_l1_b a ln mc nn A B mk mh mt C tf tt (zf_M_log_l1 a ln mc nn A B mk mh mt C tf tt f) j b1 b2 b3 b4 b5 b6 b7 b8 b9 b10) _
  unfold zf_M_log_l1_b
  refine zh_ite (fun hj => ?_) fun _ => zh_ret trivial
  rw [zi_w_id (x := j + 1) (by omega) (by omega)]
  obtain ⟨h, u, co, ro, gp, k, z⟩ := hm2
  obtain ⟨h', u', co', ro', m', -, e7, k3, e8⟩ := yk_pass k
  refine zh_bind (yw_lg2M R k z tl hln j0 (by omega) ha) fun q hq => ?_
  rw [e7, zl_b]
  exact kk (q.1, q.2.1, q.2.2.1, m', q.2.2.2.1, q.2.2.2.2.1, q.2.2.2.2.2.1, q.2.2.2.2.2.2.1, q.2.2.2.2.2.2.2.1, q.2.2.2.2.2.2.2.2) hj ⟨hq, h', u', co', ro', gp, k3, yk_sea_fr z fun j hj => e8 j (by omega) (by omega) (by omega)⟩
theorem yw_logM (R : yl_R L K V nc tS tL sP lP kd fr hf to mc C mk mf mh mt) (k : yk_sky t h u cl sc sr ch co ro br wc wr m) (z : yk_sea ts gp gl m) (hT : yk_T T M) (tl : yk_tl ln nn nr tf tt) {a w n f3 f4 : Int} {A B sp aA g S d1 d2 d3 d4 : Int → Int} :
    zh_ok (zf_M_log a w ln n mc f3 f4 nn A M B sp m aA mk g mh mt C S d1 d2 d3 tf tt d4) fun o => o.2.1 = yw_logS a w ln n ∧ ∀ j, 0 ≤ j → j < 422 → o.2.2.2.2.2.2.2.1 j = m j := by
  unfold zf_M_log yw_logS
  rw [ze_M_in, zl_b]
  refine zh_ite (fun q => zh_ret ⟨(if_pos q).symm, fun _ _ _ => rfl⟩) fun q1 => ?_
  rw [if_neg q1, ze_M_in, zl_b]
  refine zh_ite (fun q => zh_ret ⟨(if_pos q).symm, fun _ _ _ => rfl⟩) fun q2 => ?_
  rw [if_neg q2]
  refine zh_ite (fun q => zh_ret ⟨(if_pos q).symm, fun _ _ _ => rfl⟩) fun q3 => ?_
  rw [if_neg q3]
  obtain ⟨n1, n2⟩ := zs_in_ne q1
  rw [zi_w_id (x := 2 * a) (by omega) (by omega)]
  refine zh_ite (fun q => zh_ret ⟨(if_pos q).symm, fun _ _ _ => rfl⟩) fun q4 => ?_
  rw [if_neg q4]
  have hb : zh_ok (zf_M_takesLog a A M B) fun _ => True := by
    rcases yl_bytes (n := a) hT (by omega) n2 (A := A) (B := B) with ⟨A', B', -, e, -⟩ | ⟨A', B', -, e⟩
    · exact zh_t e
    · exact zh_t e
  refine zh_bind hb fun r7 _ => zh_ite (fun _ => zh_ret ⟨rfl, fun _ _ _ => rfl⟩) fun _ => ?_
  obtain ⟨-, B', -, e2, -, hB⟩ := yw_lay z sp sp
  obtain ⟨mA, e3, hA⟩ := ze_begins (g0 := m) (g := aA)
  rw [e2, zl_b, e3, zl_b]
  refine zh_bind (yw_lg1M R ⟨h, u, co, ro, gp, k, z⟩ tl q3 (by omega) n2 hB) fun q49 _ => ?_
  obtain ⟨m3, e4, h4⟩ := ze_again (g0 := mA) (g := q49.2.2.2.1)
  rw [e4, zl_b]
  obtain ⟨c, f, -, -, e5⟩ := yp_count (A := q49.2.2.1) (B := q49.2.2.1) fun _ _ _ => rfl
  rw [e5, zl_b]
  have h5 : ∀ j, 0 ≤ j → j < 422 → m3 j = m j := fun j j0 j1 => by rw [h4 j j0 j1, hA j j0 j1]
  exact zh_ite (fun _ => zh_ret ⟨rfl, h5⟩) fun _ => zh_ret ⟨rfl, h5⟩
end YWGM
end
