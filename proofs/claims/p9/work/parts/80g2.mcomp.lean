/-! two sums compared -/
section ZKD
variable {T M : Int → Int} {len : Int}
theorem ys_comp (hT : yk_T T M) (hl : len ≤ 200) {N : Nat} {w : zWT} {o p : Int} {c : zCD} {k f m num : Int} {W D : Int → Int} {r : Int ⊕ (Int × zCD)} (h : yp_C T len (N + 1) true w o p c = some r) (h33 : yp_pk T len p ≠ 33) (h40 : yp_pk T len p ≠ 40) (hs : yk_cst len w c k p o m W D) (o6 : o ≤ 6) (hN : N < 2000) :
    zh_ok (zf_M_readsCompared k p len o f m num M W D) (fun t => (t.1 = 0 ∧ r = .inl t.2.2.2.2.1) ∨ (t.1 = 1 ∧ ∃ N' w' c', N' ≤ N ∧ yp_C T len N' false w' t.2.2.2.1 t.2.2.1 c' = some r ∧ yp_hd w' ≠ 10 ∧ t.2.2.2.1 ≤ 6 ∧ yk_cst len w' c' t.2.1 t.2.2.1 t.2.2.2.1 t.2.2.2.2.2.1 t.2.2.2.2.2.2.2.1 t.2.2.2.2.2.2.2.2)) := by
  have fu : 1000000 < zi_fu := by decide
  obtain ⟨s1, s2, s3, s4, ⟨s5, s6⟩, s7, s8, s9⟩ := hs
  have n1 := yk_nn0 w
  have n2 := yk_no0 w
  have hk := yk_v_le s1
  rw [yp_C_t, if_neg h33, if_neg h40] at h
  obtain ⟨q, hq, h⟩ := zi_bind h
  unfold zf_M_readsCompared
  refine zh_bind (ys_sum (sl := (yk_nn w).toNat) hT hl (by omega) hq (by decide) (yk_base s1) s2 s5 s6 s7 (by omega) (by omega) o6) fun t ht => ?_
  rcases ht with ⟨t1, t2⟩ | ⟨t1, c1, t2, t3, t4, t5, ⟨t6, t7⟩, t8, ⟨t9, t11⟩, t10⟩
  · subst t2
    simp only [Sum.elim_inl] at h
    cases h
    rw [if_pos t1]
    exact zh_ret (Or.inl ⟨rfl, rfl⟩)
  · subst t2
    simp only [Sum.elim_inr] at h
    have v1 := yk_v_up s1 t10
    rw [if_neg (by omega), ze_here hT t6 (by omega), zl_b]
    have step : ∀ kk op, yp_cs (yp_pk T len t.2.2.1) = kk → (10 ≤ kk ∧ kk ≤ 12) → op = zd_op kk →
        zh_ok ((zf_M_readsSum t.2.1 (zi_w (t.2.2.1 + 1)) len t.2.2.2.1 t.2.2.2.2.1 t.2.2.2.2.2.1 t.2.2.2.2.2.2.1 M t.2.2.2.2.2.2.2.1 t.2.2.2.2.2.2.2.2).bind fun r23 => (if r23.1 = 0 then (some ((0 : Int), r23.2.1, r23.2.2.1, r23.2.2.2.1, r23.2.2.2.2.1, r23.2.2.2.2.2.1, r23.2.2.2.2.2.2.1, r23.2.2.2.2.2.2.2.1, r23.2.2.2.2.2.2.2.2)) else ((zf_M_notes op 0 r23.2.2.2.2.2.1 r23.2.2.2.2.2.2.2.2).bind fun r25 => ((zf_M_endsPiece r23.2.1 r25.1 r23.2.2.2.1 r23.2.2.2.2.2.2.2.1 r25.2).bind fun r26 => (some ((1 : Int), r26.1, r23.2.2.1, r26.2.2.1, r23.2.2.2.2.1, r26.2.1, r23.2.2.2.2.2.2.1, r23.2.2.2.2.2.2.2.1, r26.2.2.2))))))
        (fun t => (t.1 = 0 ∧ r = .inl t.2.2.2.2.1) ∨ (t.1 = 1 ∧ ∃ N' w' c', N' ≤ N ∧ yp_C T len N' false w' t.2.2.2.1 t.2.2.1 c' = some r ∧ yp_hd w' ≠ 10 ∧ t.2.2.2.1 ≤ 6 ∧ yk_cst len w' c' t.2.1 t.2.2.1 t.2.2.2.1 t.2.2.2.2.2.1 t.2.2.2.2.2.2.2.1 t.2.2.2.2.2.2.2.2)) := by
      intro kk op hkk k12 hop
      rw [if_neg (by omega)] at h
      have hp : t.2.2.1 < len := yp_pk_lt (T := T) (fun e => by rw [e] at hkk; have : yp_cs (-1) = -1 := (by decide); omega)
      obtain ⟨q2, hq2, h⟩ := zi_bind h
      rw [zi_w_id (x := t.2.2.1 + 1) (by omega) (by omega), t3, t4]
      refine zh_bind (ys_sum (sl := (yk_nn w).toNat + 1) hT hl (by omega) hq2 (by decide) (yk_base v1) t5 (by omega) (by omega) (by omega) (by omega) (by omega) o6) fun u hu => ?_
      rcases hu with ⟨u1, u2⟩ | ⟨u1, c2, u2, u3, u4, u5, ⟨u6, u7⟩, u8, ⟨u9, u11⟩, u10⟩
      · subst u2
        simp only [Sum.elim_inl] at h
        cases h
        rw [if_pos u1]
        exact zh_ret (Or.inl ⟨rfl, rfl⟩)
      · subst u2
        simp only [Sum.elim_inr] at h
        rw [hkk] at h
        rw [if_neg (by omega)]
        have hop12 : 0 ≤ op ∧ op ≤ 12 := by rw [hop]; unfold zd_op; (repeat' split) <;> omega
        obtain ⟨me, m0⟩ := u5.1
        rw [ze_notes (by omega) (by omega) (by omega) (by omega) (by decide) (by decide), zl_b]
        have hc2 := yk_c_em (kk := kk) (v := 0) u5 (by omega) (by omega) (by decide) (by decide)
        rw [← hop] at hc2
        have v2 := yk_v_up v1 u10
        unfold zf_M_endsPiece
        obtain ⟨y, ey, N', w', c', a1, a2, a3, a4, a5⟩ := yk_ends (T := T) (p := u.2.2.1) (r := r) hl N w o (yp_em kk 0 c2) u.2.1 _ _ zi_fu h ⟨by rw [u3]; exact v2, hc2, fun x hx hh => by
          have := s3 x hx hh
          show x.2 < c2.1 + 1; omega, s4, ⟨u6, u7⟩, by omega, by show c2.1 + 1 + yk_nn w ≤ u.2.2.1; omega, s9⟩ (by omega)
        rw [u4, ey, zl_b, zl_b]
        refine zh_ret (Or.inr ⟨rfl, N', w', c', a1, a2, a3, ?_, a4⟩)
        show y.2.2.1 ≤ 6
        omega
    by_cases h60 : yp_pk T len t.2.2.1 = 60
    · rw [if_pos h60]
      exact step 10 7 (by rw [h60]; rfl) ⟨by decide, by decide⟩ rfl
    rw [if_neg h60, zl_b]
    by_cases h62 : yp_pk T len t.2.2.1 = 62
    · rw [if_pos h62]
      exact step 11 8 (by rw [h62]; rfl) ⟨by decide, by decide⟩ rfl
    rw [if_neg h62, zl_b]
    by_cases h61 : yp_pk T len t.2.2.1 = 61
    · rw [if_pos h61]
      exact step 12 9 (by rw [h61]; rfl) ⟨by decide, by decide⟩ rfl
    rw [if_pos (by unfold yp_cs; rw [if_neg h60, if_neg h62, if_neg h61])] at h
    cases h
    rw [if_neg h61, ze_wrong t6 (by omega) (by decide) (by decide), zl_b]
    exact zh_ret (Or.inl ⟨rfl, rfl⟩)
end ZKD
