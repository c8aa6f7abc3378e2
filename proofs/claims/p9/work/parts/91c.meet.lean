/-! The place where two ships meet: alike. -/
section YMM
def ym_R (D E : Int → Int) : Prop := ∀ v, 0 ≤ v → v < 288 → (D v = -1 ∧ E v = 1000000000) ∨ (0 ≤ D v ∧ D v < 288 ∧ E v = D v)
theorem ym_R_of {t : Int} {D Q E P : Int → Int} (h : ym_D t D Q E P) : ym_R D E := fun v v1 v2 => by
  have ht := h.1
  rcases h.2.1 v v1 v2 with a | ⟨a, b, c⟩
  · exact .inl a
  · exact .inr ⟨a, by omega, c⟩
theorem ze_hoursTo {D F : Int → Int} {v : Int} (v1 : 0 ≤ v) (v2 : v < 288) : zf_Pilot_hoursTo v D F = some (if D v < F v then F v else D v) := by
  unfold zf_Pilot_hoursTo
  rw [zl_ci v1 (by omega), ze_Math_max, zl_b]
theorem ym_meet_l {D E F H : Int → Int} (a : ym_R D E) (b : ym_R F H) : ∀ (d : Nat) (j p c : Int) (n : Nat), j + d = 288 → 0 ≤ j → d < n → ((p = -1 ∧ c = 0 ∧ ∀ i, 0 ≤ i → i < j → D i = -1 ∨ F i = -1) ∨ (p = c ∧ 0 ≤ p ∧ p < 288 ∧ D p ≠ -1 ∧ F p ≠ -1)) →
    ∃ p' c', zf_Pilot_meetingPlace_l0 D F n p j = some p' ∧ zf_M_meeting_l0 E H n c j = some c' ∧ ((p' = -1 ∧ c' = 0 ∧ (D 0 = -1 ∨ F 0 = -1)) ∨ (p' = c' ∧ 0 ≤ p' ∧ p' < 288 ∧ D p' ≠ -1 ∧ F p' ≠ -1)) := by
  intro d
  induction d with
  | zero =>
    intro j p c n e j0 hn h
    obtain ⟨n, rfl⟩ : ∃ q, n = q + 1 := ⟨n - 1, by omega⟩
    refine ⟨p, c, ?_, ?_, ?_⟩
    · show zf_Pilot_meetingPlace_l0_b D F (zf_Pilot_meetingPlace_l0 D F n) p j = _
      unfold zf_Pilot_meetingPlace_l0_b
      rw [if_neg (by omega)]
    · show zf_M_meeting_l0_b E H (zf_M_meeting_l0 E H n) c j = _
      unfold zf_M_meeting_l0_b
      rw [if_neg (by omega)]
    · rcases h with ⟨h1, h2, h3⟩ | h
      · exact .inl ⟨h1, h2, h3 0 (by decide) (by omega)⟩
      · exact .inr h
  | succ d ih =>
    intro j p c n e j0 hn h
    obtain ⟨n, rfl⟩ : ∃ q, n = q + 1 := ⟨n - 1, by omega⟩
    have c0 : 0 ≤ c ∧ c < 288 := by rcases h with ⟨_, h2, _⟩ | ⟨h1, h2, h3, _⟩ <;> omega
    have aj := a j j0 (by omega)
    have bj := b j j0 (by omega)
    have ac := a c c0.1 c0.2
    have bc := b c c0.1 c0.2
    show ∃ p' c', zf_Pilot_meetingPlace_l0_b D F (zf_Pilot_meetingPlace_l0 D F n) p j = _ ∧ zf_M_meeting_l0_b E H (zf_M_meeting_l0 E H n) c j = _ ∧ _
    unfold zf_Pilot_meetingPlace_l0_b zf_M_meeting_l0_b
    rw [if_pos (show j < 288 by omega), if_pos (show j < 288 by omega), zl_ci j0 (by omega), zl_ci j0 (by omega), ze_mm, zl_b, zl_ci c0.1 (by omega), ze_mm, zl_b, zi_w_id (x := j + 1) (by omega) (by omega)]
    by_cases u : D j = -1 ∨ F j = -1
    · have hM : ¬ (if H j < E j then E j else H j) < (if H c < E c then E c else H c) := by
        have : (if H j < E j then E j else H j) = 1000000000 := by split <;> omega
        rw [this]; split <;> omega
      rw [if_neg hM]
      have nx := ih (j + 1) p c n (by omega) (by omega) (by omega) (by
        rcases h with ⟨h1, h2, h3⟩ | h
        · refine .inl ⟨h1, h2, fun i i0 i1 => ?_⟩
          by_cases w : i = j
          · subst w; exact u
          · exact h3 i i0 (by omega)
        · exact .inr h)
      by_cases u1 : D j = -1
      · rw [if_pos u1]; exact nx
      · rw [if_neg u1, if_pos (u.resolve_left u1)]; exact nx
    · rw [if_neg (fun w => u (.inl w)), if_neg (fun w => u (.inr w))]
      have u1 : D j ≠ -1 := fun w => u (.inl w)
      have u2 : F j ≠ -1 := fun w => u (.inr w)
      have go := fun p2 : Int => fun (q0 : 0 ≤ p2) (q1 : p2 < 288) (q2 : D p2 ≠ -1) (q3 : F p2 ≠ -1) => ih (j + 1) p2 p2 n (by omega) (by omega) (by omega) (.inr ⟨rfl, q0, q1, q2, q3⟩)
      rcases h with ⟨h1, h2, h3⟩ | ⟨h1, h2, h3, h4, h5⟩
      · rw [if_pos h1]
        by_cases w : j = 0
        · have hM : ¬ (if H j < E j then E j else H j) < (if H c < E c then E c else H c) := by
            rw [w, h2]; omega
          have hcj : c = j := by omega
          rw [if_neg hM, hcj]
          exact go j j0 (by omega) u1 u2
        · have hc := h3 c (by omega) (by omega)
          have hM : (if H j < E j then E j else H j) < (if H c < E c then E c else H c) := by
            have : (if H c < E c then E c else H c) = 1000000000 := by split <;> omega
            rw [this]; split <;> omega
          rw [if_pos hM]
          exact go j j0 (by omega) u1 u2
      · subst h1
        rw [if_neg (show ¬ p = -1 by omega), ze_hoursTo j0 (by omega), zl_b, ze_hoursTo h2 h3, zl_b]
        have x1 : (if H j < E j then E j else H j) = (if D j < F j then F j else D j) := by split <;> split <;> omega
        have x2 : (if H p < E p then E p else H p) = (if D p < F p then F p else D p) := by split <;> split <;> omega
        rw [x1, x2]
        by_cases w : (if D j < F j then F j else D j) < (if D p < F p then F p else D p)
        · rw [if_pos w, if_pos w]
          exact go j j0 (by omega) u1 u2
        · rw [if_neg w, if_neg w]
          exact go p h2 h3 h4 h5
end YMM
