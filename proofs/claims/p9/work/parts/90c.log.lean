/-! A log's bytes: alike on both sides. -/
section YLG
variable {T M : Int → Int} {n : Int}
theorem yl_bytes_l (hT : yk_T T M) (n2 : n ≤ 12) : ∀ (d : Nat) (j : Int) (A B : Int → Int) (f f2 : Nat), n - j ≤ d → 0 ≤ j → d < f → d < f2 → (∀ i, 0 ≤ i → i < j → A i = T (2 * i) ∧ B i = T (2 * i + 1)) →
    (∃ A' B', zf_X_isLogBytes_l0 n T f j = some (.inl ()) ∧ zf_M_takesLog_l0 n M f2 j A B = some (.inl (A', B')) ∧ ∀ i, 0 ≤ i → i < n → A' i = T (2 * i) ∧ B' i = T (2 * i + 1)) ∨ ∃ A' B', zf_X_isLogBytes_l0 n T f j = some (.inr 0) ∧ zf_M_takesLog_l0 n M f2 j A B = some (.inr (0, A', B')) := by
  intro d
  induction d with
  | zero =>
    intro j A B f f2 e j0 hf hf2 h
    obtain ⟨f, rfl⟩ : ∃ q, f = q + 1 := ⟨f - 1, by omega⟩
    obtain ⟨f2, rfl⟩ : ∃ q, f2 = q + 1 := ⟨f2 - 1, by omega⟩
    refine .inl ⟨A, B, ?_, ?_, fun i i0 i1 => h i i0 (by omega)⟩
    · show zf_X_isLogBytes_l0_b n T (zf_X_isLogBytes_l0 n T f) j = _
      unfold zf_X_isLogBytes_l0_b
      rw [if_neg (by omega)]
    · show zf_M_takesLog_l0_b n M (zf_M_takesLog_l0 n M f2) j A B = _
      unfold zf_M_takesLog_l0_b
      rw [if_neg (by omega)]
  | succ d ih =>
    intro j A B f f2 e j0 hf hf2 h
    obtain ⟨f, rfl⟩ : ∃ q, f = q + 1 := ⟨f - 1, by omega⟩
    obtain ⟨f2, rfl⟩ : ∃ q, f2 = q + 1 := ⟨f2 - 1, by omega⟩
    show (∃ A' B', zf_X_isLogBytes_l0_b n T (zf_X_isLogBytes_l0 n T f) j = _ ∧ zf_M_takesLog_l0_b n M (zf_M_takesLog_l0 n M f2) j A B = _ ∧ _) ∨ ∃ A' B', zf_X_isLogBytes_l0_b n T (zf_X_isLogBytes_l0 n T f) j = _ ∧ zf_M_takesLog_l0_b n M (zf_M_takesLog_l0 n M f2) j A B = _
    unfold zf_X_isLogBytes_l0_b zf_M_takesLog_l0_b
    by_cases q : ¬ j < n
    · rw [if_neg q, if_neg q]
      exact .inl ⟨A, B, rfl, rfl, fun i i0 i1 => h i i0 (by omega)⟩
    have q : j < n := by omega
    rw [if_pos q, if_pos q, zi_w_id (x := 2 * j) (by omega) (by omega), zi_w_id (x := 2 * j + 1) (by omega) (by omega), zi_w_id (x := n - 1) (by omega) (by omega), zi_w_id (x := j + 1) (by omega) (by omega), ze_byteAt (show 0 ≤ 2 * j by omega) (by omega), zl_b, zl_ci (show 0 ≤ 2 * j by omega) (by omega), zl_ci j0 (by omega), zl_ci (show 0 ≤ 2 * j + 1 by omega) (by omega), (hT (2 * j) (by omega) (by omega)).1, (hT (2 * j + 1) (by omega) (by omega)).1, zv_up_s, zv_up_s]
    by_cases c : 1 < T (2 * j)
    · rw [if_pos c, if_pos c]
      exact .inr ⟨_, _, rfl, rfl⟩
    rw [if_neg c, if_neg c]
    have h2 : ∀ i, 0 ≤ i → i < j + 1 → zv_up A j (T (2 * j)) i = T (2 * i) ∧ zv_up B j (T (2 * j + 1)) i = T (2 * i + 1) := fun i i0 i1 => by
      by_cases w : i = j
      · subst w; rw [zv_up_s, zv_up_s]; exact ⟨rfl, rfl⟩
      · rw [zv_up_n w, zv_up_n w]; exact h i i0 (by omega)
    have nx := ih (j + 1) _ _ f f2 (by omega) (by omega) (by omega) (by omega) h2
    by_cases g : j < n - 1
    · rw [if_pos g, if_pos (show j + 1 < n by omega), ze_byteAt (show 0 ≤ 2 * j + 1 by omega) (by omega), zl_b]
      by_cases w : 4 < T (2 * j + 1)
      · rw [if_pos w, if_pos w]
        exact .inr ⟨_, _, rfl, rfl⟩
      · rw [if_neg w, if_neg w]
        exact nx
    · rw [if_neg g, if_neg (show ¬ j + 1 < n by omega)]
      exact nx
theorem yl_bytes (hT : yk_T T M) (n1 : 0 ≤ n) (n2 : n ≤ 12) {A B : Int → Int} : (∃ A' B', zf_X_isLogBytes n T = some 1 ∧ zf_M_takesLog n A M B = some (1, A', B') ∧ ∀ i, 0 ≤ i → i < n → A' i = T (2 * i) ∧ B' i = T (2 * i + 1)) ∨ ∃ A' B', zf_X_isLogBytes n T = some 0 ∧ zf_M_takesLog n A M B = some (0, A', B') := by
  unfold zf_X_isLogBytes zf_M_takesLog
  rcases yl_bytes_l hT n2 12 0 A B zi_fu zi_fu (by omega) (by decide) (by decide) (by decide) (fun i _ _ => by omega) with ⟨A', B', e1, e2, h⟩ | ⟨A', B', e1, e2⟩
  · rw [e1, e2, zl_b, zl_b]
    exact .inl ⟨A', B', rfl, rfl, h⟩
  · rw [e1, e2, zl_b, zl_b]
    exact .inr ⟨A', B', rfl, rfl⟩
end YLG
