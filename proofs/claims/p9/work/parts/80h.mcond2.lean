/-! The reference's reader of conditions, second half. -/
section ZKD2
variable {T M : Int → Int} {len : Int}
/-- behind a piece: what closes -/
theorem ys_close (hT : yk_T T M) (hl : len ≤ 200) {f num : Int} {W : Int → Int} : ∀ (B N : Nat), N ≤ B → B < 2000 → ∀ (w : zWT) (o p : Int) (c : zCD) (k m : Int) (D : Int → Int) (r : Int ⊕ (Int × zCD)) (n : Nat), yp_C T len N false w o p c = some r → yp_hd w ≠ 10 → yk_cst len w c k p o m W D → o ≤ 6 → N < n →
    zh_ok (zf_M_readsCondition_l1 len f num M W n p o k m D) (fun t => Sum.elim (fun e => ∃ N' w' c', N' ≤ N ∧ yp_C T len N' false w' e.2.1 e.1 c' = some r ∧ yp_hd w' ≠ 10 ∧ yp_pk T len e.1 ≠ 41 ∧ e.2.1 ≤ 6 ∧ yk_cst len w' c' e.2.2.1 e.1 e.2.1 e.2.2.2.1 W e.2.2.2.2) (fun t => t.1 = 1 ∧ ∃ c', r = .inr (t.2.1, c') ∧ yk_c c' t.2.2.2.2.2.1 t.2.2.2.2.2.2.2.2 ∧ (0 ≤ t.2.1 ∧ t.2.1 ≤ len) ∧ c'.1 ≤ t.2.1) t) := by
  intro B
  induction B with
  | zero =>
    intro N hN _ w o p c k m D r n h
    obtain rfl : N = 0 := by omega
    exact zl_ns h
  | succ B ih =>
    intro N hN hB w o p c k m D r n h h10 hs o6 hn
    obtain ⟨N, rfl⟩ : ∃ q, N = q + 1 := by
      cases N with
      | zero => exact zl_ns h
      | succ q => exact ⟨q, rfl⟩
    obtain ⟨n, rfl⟩ : ∃ q, n = q + 1 := ⟨n - 1, by omega⟩
    have fu : 1000000 < zi_fu := by decide
    have hs0 := hs
    obtain ⟨s1, s2, s3, s4, ⟨s5, s6⟩, s7, s8, s9⟩ := hs
    have n1 := yk_nn0 w
    have n2 := yk_no0 w
    have hk := yk_v_le s1
    obtain ⟨me, m0⟩ := s2.1
    show zh_ok (zf_M_readsCondition_l1_b len f num M W (zf_M_readsCondition_l1 len f num M W n) p o k m D) _
    unfold zf_M_readsCondition_l1_b
    rw [ze_here hT s5 (by omega), zl_b]
    by_cases h41 : yp_pk T len p = 41
    · have hp : p < len := yp_pk_lt (T := T) (by omega)
      rw [yp_C_f, if_neg h10, if_pos h41] at h
      rw [if_pos h41]
      unfold zf_M_lands
      obtain ⟨t, et, t1, t2, t3⟩ := yk_lands (Or.inr ⟨rfl, rfl⟩) w c k m D zi_fu s1 (by omega) s2 s3 (by omega) (by omega)
      rw [et, zl_b, zl_b]
      have hbt := yk_bt_la (all := true) w c s9
      obtain ⟨l1, l2, l3, l4⟩ := yp_la_1 (all := true) w c
      have ln : yp_hd (yp_la true w c).1 ≠ 11 ∧ yp_hd (yp_la true w c).1 ≠ 12 := by
        clear h hs0 s1 s2 s3 s4 s8 s9 hk n1 n2 h10 et t1 t2 t3 hbt l1 l2 l3 l4 me m0
        revert c
        induction w with
        | nil => intro c; exact ⟨(show (0 : Int) ≠ 11 by decide), (show (0 : Int) ≠ 12 by decide)⟩
        | cons s w ihw =>
          intro c
          rw [yp_la_c]
          split
          · exact ihw _
          · rename_i q
            exact ⟨fun e => q (Or.inl e), fun e => q (Or.inr ⟨rfl, e⟩)⟩
      generalize yp_la true w c = z at h t1 t2 t3 hbt l1 l2 l3 l4 ln
      obtain ⟨zw, zc⟩ := z
      cases zw with
      | nil => exact hbt.elim
      | cons s w2 =>
        have hk2 := yk_v_le t1
        have hk2 : t.1 = ((w2.length + 1 : Nat) : Int) := hk2
        have l4 : w2.length + 1 ≤ w.length := l4
        have l1 : zc.1 = c.1 := l1
        have l2 : (if s.1 = 10 then 1 else 0) + yk_nn w2 = yk_nn w := l2
        have l3 : (if s.1 = 10 ∨ s.1 = 13 then 1 else 0) + yk_no w2 = yk_no w := l3
        have ln : s.1 ≠ 11 ∧ s.1 ≠ 12 := ln
        have t1' : W (t.1 - 1) = 1048576 * s.1 + s.2 ∧ (10 ≤ s.1 ∧ s.1 ≤ 13) ∧ (0 ≤ s.2 ∧ s.2 < 200) ∧ yk_v w2 W (t.1 - 1) := t1
        obtain ⟨t11, t12, t13, t14⟩ := t1'
        rw [if_pos (by omega)] at l3
        have n3 := yk_no0 w2
        have n4 := yk_nn0 w2
        have l5 : yk_nn w2 ≤ yk_nn w := by
          rw [← l2]
          split <;> omega
        rw [zi_w_id (x := t.1 - 1) (by omega) (by omega), zi_w_id (x := p + 1) (by omega) (by omega), zi_w_id (x := o - 1) (by omega) (by omega)]
        by_cases hw2 : w2 = []
        · have h : some (.inr (p + 1, zc)) = some r := by
            have h : (if w2 = [] then some (.inr (p + 1, zc)) else yp_C T len N false w2 (o - 1) (p + 1) zc) = some r := h
            rwa [if_pos hw2] at h
          cases h
          subst hw2
          have hk2 : t.1 = ((0 + 1 : Nat) : Int) := hk2
          rw [if_pos (by omega)]
          refine zh_ret ⟨rfl, zc, rfl, t2, ⟨?_, ?_⟩, ?_⟩
          · show 0 ≤ p + 1; omega
          · show p + 1 ≤ len; omega
          · show zc.1 ≤ p + 1; omega
        · have h : yp_C T len N false w2 (o - 1) (p + 1) zc = some r := by
            have h : (if w2 = [] then some (.inr (p + 1, zc)) else yp_C T len N false w2 (o - 1) (p + 1) zc) = some r := h
            rwa [if_neg hw2] at h
          have hl2 : w2.length ≠ 0 := fun e => hw2 (List.length_eq_zero_iff.mp e)
          rw [if_neg (by omega)]
          unfold zf_M_endsPiece
          obtain ⟨y, ey, N', w', c', a1, a2, a3, a4, a5⟩ := yk_ends (T := T) (p := p + 1) (r := r) hl N w2 (o - 1) zc (t.1 - 1) m t.2 zi_fu h ⟨t14, t2, fun x hx hh => t3 x (List.mem_cons_of_mem _ hx) hh, by omega, ⟨by omega, by omega⟩, by omega, by omega, by
            rcases hbt with ⟨q, _⟩ | q
            · exact absurd q hw2
            · exact q⟩ (by omega)
          rw [ey, zl_b, zl_b]
          refine zh_mono (ih N' (by omega) (by omega) w' y.2.2.1 (p + 1) c' y.1 y.2.1 y.2.2.2 r n a2 a3 a4 (by omega) (by omega)) fun t ht => ?_
          cases t with
          | inl e =>
            obtain ⟨N2, w3, c3, b1, b2⟩ := ht
            exact ⟨N2, w3, c3, by omega, b2⟩
          | inr e => exact ht
    · rw [if_neg h41]
      exact zh_ret ⟨N + 1, w, c, Nat.le_refl _, h, h10, h41, o6, hs0⟩
end ZKD2
