/-! The spreading over the sea: alike on both sides. -/
def ym_D (t : Int) (D Q E P : Int → Int) : Prop := (1 ≤ t ∧ t ≤ 288) ∧ (∀ v, 0 ≤ v → v < 288 → (D v = -1 ∧ E v = 1000000000) ∨ (0 ≤ D v ∧ D v < t ∧ E v = D v)) ∧ yn_n (fun j => decide (D j ≠ -1)) 288 = t ∧ ∀ i, 0 ≤ i → i < t → Q i = P i ∧ (0 ≤ Q i ∧ Q i < 288) ∧ D (Q i) ≠ -1
section YMS
variable {ts : Int} {gp gl m : Int → Int}
theorem ym_D_add {t x v : Int} {D Q E P : Int → Int} (h : ym_D t D Q E P) (x1 : 0 ≤ x) (x2 : x < 288) (hx : D x ≠ -1) (v1 : 0 ≤ v) (v2 : v < 288) (hv : D v = -1) : t < 288 ∧ E v = 1000000000 ∧ E x = D x ∧ (0 ≤ D x ∧ D x < 288) ∧ ym_D (t + 1) (zv_up D v (D x + 1)) (zv_up Q t v) (zv_up E v (D x + 1)) (zv_up P t v) := by
  obtain ⟨⟨t1, t2⟩, hd, hc, hq⟩ := h
  have dx : 0 ≤ D x ∧ D x < t ∧ E x = D x := by
    rcases hd x x1 x2 with ⟨a, _⟩ | a
    · exact absurd a hx
    · exact a
  have ev : E v = 1000000000 := by
    rcases hd v v1 v2 with ⟨_, a⟩ | ⟨a, _⟩
    · exact a
    · omega
  have nv : ¬ (fun j : Nat => decide (D j ≠ -1)) v.toNat = true := by
    show ¬ decide (D (v.toNat : Int) ≠ -1) = true
    rw [Int.toNat_of_nonneg v1, hv]; decide
  have lt : t < 288 := by
    have := yn_lt (f := fun j : Nat => decide (D j ≠ -1)) (g := fun _ => true) (k := v.toNat) nv rfl 288 (by omega) (fun _ _ _ => rfl)
    have b := yn_in (f := fun _ => true) 288
    omega
  refine ⟨lt, ev, dx.2.2, ⟨dx.1, by omega⟩, ⟨by omega, by omega⟩, fun w w1 w2 => ?_, ?_, fun i i0 i1 => ?_⟩
  · by_cases e : w = v
    · subst e
      rw [zv_up_s, zv_up_s]
      exact .inr ⟨by omega, by omega, rfl⟩
    · rw [zv_up_n e, zv_up_n e]
      rcases hd w w1 w2 with a | ⟨a, b, c⟩
      · exact .inl a
      · exact .inr ⟨a, by omega, c⟩
  · rw [← hc]
    refine yn_add (k := v.toNat) ?_ ?_ 288 (by omega) fun j _ hn => ?_
    · show decide (D (v.toNat : Int) ≠ -1) = false
      rw [Int.toNat_of_nonneg v1, hv]; rfl
    · show decide (zv_up D v (D x + 1) (v.toNat : Int) ≠ -1) = true
      rw [Int.toNat_of_nonneg v1, zv_up_s]
      exact decide_eq_true (by omega)
    · show decide (D (j : Int) ≠ -1) = decide (zv_up D v (D x + 1) (j : Int) ≠ -1)
      rw [zv_up_n (by omega)]
  · by_cases e : i = t
    · subst e
      rw [zv_up_s, zv_up_s, zv_up_s]
      exact ⟨rfl, ⟨v1, v2⟩, by omega⟩
    · obtain ⟨a, b, c⟩ := hq i i0 (by omega)
      rw [zv_up_n e, zv_up_n e]
      refine ⟨a, b, ?_⟩
      by_cases w : Q i = v
      · rw [w, zv_up_s]; omega
      · rw [zv_up_n w]; exact c
theorem ym_four (z : yk_sea ts gp gl m) {hd : Int} (h0 : 0 ≤ hd) : ∀ (d : Nat) (k t : Int) (D Q E P : Int → Int) (n : Nat), k + d = 5 → 1 ≤ k → d < n → hd < t → ym_D t D Q E P →
    ∃ t' D' Q' E' P', zf_Pilot_spread_288_l1 (Q hd) gl n t k D Q = some (t', D', Q') ∧ zf_M_sails_288_l2 hd m n t k E P = some (t', E', P') ∧ t ≤ t' ∧ ym_D t' D' Q' E' P' := by
  intro d
  induction d with
  | zero =>
    intro k t D Q E P n e k1 hn ht h
    obtain ⟨n, rfl⟩ : ∃ q, n = q + 1 := ⟨n - 1, by omega⟩
    refine ⟨t, D, Q, E, P, ?_, ?_, Int.le_refl _, h⟩
    · show zf_Pilot_spread_288_l1_b (Q hd) gl (zf_Pilot_spread_288_l1 (Q hd) gl n) t k D Q = _
      unfold zf_Pilot_spread_288_l1_b
      rw [if_neg (by omega)]
    · show zf_M_sails_288_l2_b hd m (zf_M_sails_288_l2 hd m n) t k E P = _
      unfold zf_M_sails_288_l2_b
      rw [if_pos (by omega)]
  | succ d ih =>
    intro k t D Q E P n e k1 hn ht h
    obtain ⟨n, rfl⟩ : ∃ q, n = q + 1 := ⟨n - 1, by omega⟩
    obtain ⟨⟨t1, t2⟩, hdd, hc, hq⟩ := id h
    obtain ⟨q1, ⟨q2, q3⟩, q4⟩ := hq hd h0 ht
    obtain ⟨g1, g2⟩ := yg_go_in (how := k) q2 q3
    show ∃ t' D' Q' E' P', zf_Pilot_spread_288_l1_b (Q hd) gl (zf_Pilot_spread_288_l1 (Q hd) gl n) t k D Q = _ ∧ zf_M_sails_288_l2_b hd m (zf_M_sails_288_l2 hd m n) t k E P = _ ∧ _
    unfold zf_Pilot_spread_288_l1_b zf_M_sails_288_l2_b
    rw [if_pos (show k < 5 by omega), if_neg (show ¬ 4 < k by omega), zl_ci h0 (by omega), ← q1, ze_goFrom z q2 q3, zl_b, ze_goesTo q2 q3, zl_b, zi_w_id (x := k + 1) (by omega) (by omega)]
    have nx := ih (k + 1) t D Q E P n (by omega) (by omega) (by omega) ht h
    by_cases a : yg_go (Q hd) k = -1
    · rw [if_pos (show yg_go (Q hd) k = -1 ∨ yg_ld gl (yg_go (Q hd) k) = true from .inl a), if_pos rfl, if_pos a]
      exact nx
    rw [if_neg a, ze_isLandM z (by omega) (by omega), zl_b]
    by_cases b : yg_ld gl (yg_go (Q hd) k) = true
    · rw [if_pos (show yg_go (Q hd) k = -1 ∨ yg_ld gl (yg_go (Q hd) k) = true from .inr b), if_pos rfl, if_pos b, if_neg (show ¬ (1 : Int) = 0 by decide)]
      exact nx
    rw [if_neg (show ¬ (yg_go (Q hd) k = -1 ∨ yg_ld gl (yg_go (Q hd) k) = true) from fun w => w.elim a b), if_neg a, if_neg b, if_pos rfl, zl_ci (show 0 ≤ yg_go (Q hd) k by omega) (by omega), zl_ci (show 0 ≤ yg_go (Q hd) k by omega) (by omega)]
    by_cases c : D (yg_go (Q hd) k) = -1
    · obtain ⟨lt, ev, ex, ⟨dx1, dx2⟩, hn2⟩ := ym_D_add h q2 q3 q4 (by omega) g2 c
      rw [if_pos c, if_pos lt, if_neg (show ¬ E (yg_go (Q hd) k) < 1000000000 by omega), zl_ci q2 (by omega), zl_ci q2 (by omega), zl_ci (show 0 ≤ t by omega) (by omega), zl_ci (show 0 ≤ t by omega) (by omega), ex, zi_w_id (x := D (Q hd) + 1) (by omega) (by omega), zi_w_id (x := t + 1) (by omega) (by omega)]
      obtain ⟨t', D', Q', E', P', e1, e2, e3, e4⟩ := ih (k + 1) (t + 1) _ _ _ _ n (by omega) (by omega) (by omega) (by omega) hn2
      rw [zv_up_n (show hd ≠ t by omega)] at e1
      exact ⟨t', D', Q', E', P', e1, e2, by omega, e4⟩
    · have e5 : E (yg_go (Q hd) k) < 1000000000 := by
        rcases hdd _ (by omega) g2 with ⟨w, _⟩ | ⟨w1, w2, w3⟩
        · exact absurd w c
        · omega
      rw [if_neg c, if_pos e5]
      exact nx
end YMS
