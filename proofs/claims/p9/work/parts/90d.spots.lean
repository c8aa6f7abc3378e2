/-! The places of a log: laid and counted alike. -/
section YSP
variable {ts : Int} {gp gl m : Int → Int}
theorem yp_lay_l (z : yk_sea ts gp gl m) : ∀ (d : Nat) (j : Int) (A B : Int → Int) (n : Nat), j + d = 288 → 0 ≤ j → d < n →
    ∃ A' B', zf_X_log_l0 gl n j A = some A' ∧ zf_M_log_l0 m n j B = some B' ∧ (∀ i, j ≤ i → i < 288 → A' i = (if yg_ld gl i = true then -1 else i) ∧ B' i = (if yg_ld gl i = true then -1 else i)) ∧ ∀ i, i < j → A' i = A i ∧ B' i = B i := by
  intro d
  induction d with
  | zero =>
    intro j A B n e j0 hn
    obtain ⟨n, rfl⟩ : ∃ q, n = q + 1 := ⟨n - 1, by omega⟩
    refine ⟨A, B, ?_, ?_, fun i _ _ => by omega, fun i _ => ⟨rfl, rfl⟩⟩
    · show zf_X_log_l0_b gl (zf_X_log_l0 gl n) j A = _
      unfold zf_X_log_l0_b
      rw [if_neg (by omega)]
    · show zf_M_log_l0_b m (zf_M_log_l0 m n) j B = _
      unfold zf_M_log_l0_b
      rw [if_neg (by omega)]
  | succ d ih =>
    intro j A B n e j0 hn
    obtain ⟨n, rfl⟩ : ∃ q, n = q + 1 := ⟨n - 1, by omega⟩
    obtain ⟨v, hv⟩ : ∃ v : Int, v = if yg_ld gl j = true then -1 else j := ⟨_, rfl⟩
    obtain ⟨A', B', e1, e2, a, b⟩ := ih (j + 1) (zv_up A j v) (zv_up B j v) n (by omega) (by omega) (by omega)
    refine ⟨A', B', ?_, ?_, fun i i0 i1 => ?_, fun i i0 => ?_⟩
    · show zf_X_log_l0_b gl (zf_X_log_l0 gl n) j A = _
      unfold zf_X_log_l0_b
      rw [if_pos (by omega), ze_isLandX z j0 (by omega), zl_b, zl_ci j0 (by omega), zl_ci j0 (by omega), zi_w_id (x := j + 1) (by omega) (by omega), ← e1, hv]
      by_cases q : yg_ld gl j = true
      · rw [if_pos q, if_pos q, if_neg (by decide)]
      · rw [if_neg q, if_neg q, if_pos rfl]
    · show zf_M_log_l0_b m (zf_M_log_l0 m n) j B = _
      unfold zf_M_log_l0_b
      rw [if_pos (by omega), ze_isLandM z j0 (by omega), zl_b, zl_ci j0 (by omega), zl_ci j0 (by omega), zi_w_id (x := j + 1) (by omega) (by omega), ← e2, hv]
      by_cases q : yg_ld gl j = true
      · rw [if_pos q, if_pos q, if_neg (by decide)]
      · rw [if_neg q, if_neg q, if_pos rfl]
    · by_cases w : i = j
      · subst w
        obtain ⟨x, y⟩ := b i (by omega)
        rw [x, y, zv_up_s, zv_up_s, hv]
        exact ⟨rfl, rfl⟩
      · exact a i (by omega) i1
    · obtain ⟨x, y⟩ := b i (by omega)
      rw [x, y, zv_up_n (by omega), zv_up_n (by omega)]
      exact ⟨rfl, rfl⟩
theorem yp_count_l {A B : Int → Int} (h : ∀ i, 0 ≤ i → i < 288 → A i = B i) : ∀ (d : Nat) (j c f : Int) (n : Nat), j + d = 288 → 0 ≤ j → d < n → 0 ≤ c → c ≤ j →
    ∃ c' f', zf_X_countSpots_l0 A n c j = some c' ∧ zf_M_log_l3 B n c f j = some (c', f') ∧ (c ≠ 0 → f' = f) ∧ (c = 0 → (zf_X_firstSpot_l0 A n j = some (.inl ()) ∧ f' = f) ∨ zf_X_firstSpot_l0 A n j = some (.inr f')) := by
  intro d
  induction d with
  | zero =>
    intro j c f n e j0 hn c0 c1
    obtain ⟨n, rfl⟩ : ∃ q, n = q + 1 := ⟨n - 1, by omega⟩
    refine ⟨c, f, ?_, ?_, fun _ => rfl, fun _ => .inl ⟨?_, rfl⟩⟩
    · show zf_X_countSpots_l0_b A (zf_X_countSpots_l0 A n) c j = _
      unfold zf_X_countSpots_l0_b
      rw [if_neg (by omega)]
    · show zf_M_log_l3_b B (zf_M_log_l3 B n) c f j = _
      unfold zf_M_log_l3_b
      rw [if_neg (by omega)]
    · show zf_X_firstSpot_l0_b A (zf_X_firstSpot_l0 A n) j = _
      unfold zf_X_firstSpot_l0_b
      rw [if_neg (by omega)]
  | succ d ih =>
    intro j c f n e j0 hn c0 c1
    obtain ⟨n, rfl⟩ : ∃ q, n = q + 1 := ⟨n - 1, by omega⟩
    show ∃ c' f', zf_X_countSpots_l0_b A (zf_X_countSpots_l0 A n) c j = _ ∧ zf_M_log_l3_b B (zf_M_log_l3 B n) c f j = _ ∧ (c ≠ 0 → f' = f) ∧ (c = 0 → (zf_X_firstSpot_l0_b A (zf_X_firstSpot_l0 A n) j = _ ∧ f' = f) ∨ zf_X_firstSpot_l0_b A (zf_X_firstSpot_l0 A n) j = _)
    unfold zf_X_countSpots_l0_b zf_M_log_l3_b zf_X_firstSpot_l0_b
    rw [if_pos (show j < 288 by omega), if_pos (show j < 288 by omega), if_pos (show j < 288 by omega), zl_ci j0 (by omega), zl_ci j0 (by omega), zl_ci j0 (by omega), ← h j j0 (by omega), zi_w_id (x := j + 1) (by omega) (by omega), zi_w_id (x := c + 1) (by omega) (by omega)]
    by_cases q : A j = -1
    · rw [if_pos q, if_pos q, if_pos q]
      exact ih (j + 1) c f n (by omega) (by omega) (by omega) c0 (by omega)
    · rw [if_neg q, if_neg q, if_neg q]
      by_cases w : c = 0
      · rw [if_pos w]
        obtain ⟨c', f', e1, e2, e3, -⟩ := ih (j + 1) (c + 1) j n (by omega) (by omega) (by omega) (by omega) (by omega)
        have := e3 (by omega)
        exact ⟨c', f', e1, e2, fun x => absurd w x, fun _ => .inr (by rw [this])⟩
      · rw [if_neg w]
        obtain ⟨c', f', e1, e2, e3, -⟩ := ih (j + 1) (c + 1) f n (by omega) (by omega) (by omega) (by omega) (by omega)
        exact ⟨c', f', e1, e2, fun _ => e3 (by omega), fun x => absurd x w⟩
theorem yp_count {A B : Int → Int} (h : ∀ i, 0 ≤ i → i < 288 → A i = B i) : ∃ c f, zf_X_countSpots A = some c ∧ zf_X_firstSpot A = some f ∧ zf_M_log_l3 B zi_fu 0 (-2) 0 = some (c, f) := by
  obtain ⟨c, f, e1, e2, -, e4⟩ := yp_count_l h 288 0 0 (-2) zi_fu (by decide) (by decide) (by decide) (by decide) (by decide)
  refine ⟨c, f, ?_, ?_, e2⟩
  · unfold zf_X_countSpots
    rw [e1]; rfl
  · unfold zf_X_firstSpot
    rcases e4 rfl with ⟨e, ef⟩ | e
    · rw [e, zl_b, ef]; rfl
    · rw [e, zl_b]; rfl
end YSP
