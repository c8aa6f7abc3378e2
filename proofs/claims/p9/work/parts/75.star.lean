/-! What star, walk and gone do, and what starIs answers, on both sides. -/
def zl_sky (t h : Int) (co ro br wc wr m : Int → Int) : Prop := (0 ≤ t ∧ t ≤ 16777215 ∧ m 126 = t) ∧ (0 ≤ h ∧ h ≤ 23 ∧ m 128 = h) ∧
  ∀ i, 0 ≤ i → i < 24 → (m i = co i ∧ m (24 + i) = ro i ∧ m (48 + i) = br i ∧ m (72 + i) = wc i ∧ m (96 + i) = wr i) ∧ (0 ≤ co i ∧ co i ≤ 23 ∧ 0 ≤ ro i ∧ ro i ≤ 11 ∧ 0 ≤ br i ∧ br i ≤ 9 ∧ -3 ≤ wc i ∧ wc i ≤ 3 ∧ -3 ≤ wr i ∧ wr i ≤ 3)
theorem zl_or24 {t i : Int} (h1 : 0 ≤ t) (h2 : t ≤ 16777215) (k1 : 0 ≤ i) (k2 : i < 24) : 0 ≤ zi_or t (zi_shl 1 i) ∧ zi_or t (zi_shl 1 i) ≤ 16777215 := zl_row_in (b := 1) h1 h2 k1 k2
theorem zl_star {i c r b t h : Int} {co ro br wc wr m : Int → Int} (hs : zl_sky t h co ro br wc wr m) : ∃ a t' co' ro' br' wc' wr' m', zf_X_star i c r b t co ro br wc wr = some (a, t', co', ro', br', wc', wr') ∧ zf_M_star i c r b m = some (a, m') ∧ zl_sky t' h co' ro' br' wc' wr' m' ∧ ∀ j, 126 < j → m' j = m j := by
  obtain ⟨⟨t1, t2, t3⟩, ⟨h1, h2, h3⟩, hr⟩ := id hs
  unfold zf_X_star zf_M_star
  rw [ze_X_isWithin, ze_M_in, zl_b, zl_b]
  by_cases q1 : zs_in i 0 23 = 0
  · rw [if_pos q1, if_pos q1]
    exact ⟨0, t, co, ro, br, wc, wr, m, rfl, rfl, hs, fun _ _ => rfl⟩
  rw [if_neg q1, if_neg q1, ze_X_isPlace, ze_M_isPlace, zl_b, zl_b]
  obtain ⟨i1, i2⟩ := zs_in_ne q1
  by_cases q2 : zs_pl c r = 0
  · rw [if_pos q2, if_pos q2]
    exact ⟨0, t, co, ro, br, wc, wr, m, rfl, rfl, hs, fun _ _ => rfl⟩
  rw [if_neg q2, if_neg q2, ze_X_isWithin, ze_M_in, zl_b, zl_b]
  obtain ⟨c1, c2, c3, c4⟩ := zs_pl_ne q2
  by_cases q3 : zs_in b 1 9 = 0
  · rw [if_pos q3, if_pos q3]
    exact ⟨0, t, co, ro, br, wc, wr, m, rfl, rfl, hs, fun _ _ => rfl⟩
  rw [if_neg q3, if_neg q3]
  obtain ⟨b1, b2⟩ := zs_in_ne q3
  rw [zi_w_id (x := 0 + i) (by omega) (by omega), zi_w_id (x := 24 + i) (by omega) (by omega), zi_w_id (x := 48 + i) (by omega) (by omega), zi_w_id (x := 72 + i) (by omega) (by omega), zi_w_id (x := 96 + i) (by omega) (by omega)]
  rw [zl_c (zi_ix_of (by omega) (by omega)), zl_c (zi_ix_of (by omega) (by omega)), zl_c (zi_ix_of (by omega) (by omega)), zl_c (zi_ix_of (by omega) (by omega)), zl_c (zi_ix_of (by omega) (by omega)), zl_c (zi_ix_of (by omega) (by omega))]
  obtain ⟨o1, o2⟩ := zl_or24 t1 t2 i1 (by omega : i < 24)
  refine ⟨1, _, _, _, _, _, _, _, rfl, rfl, ⟨⟨o1, o2, ?_⟩, ⟨h1, h2, ?_⟩, fun j j1 j2 => ?_⟩, fun j hj => ?_⟩
  · rw [zv_up_n (by omega), zv_up_n (by omega), zv_up_n (by omega), zv_up_n (by omega), zv_up_n (by omega), zv_up_s, t3]
  · rw [zv_up_n (by omega), zv_up_n (by omega), zv_up_n (by omega), zv_up_n (by omega), zv_up_n (by omega), zv_up_n (by omega)]; exact h3
  · have hj := hr j j1 j2
    unfold zv_up
    by_cases e : j = i
    · subst e
      refine ⟨⟨?_, ?_, ?_, ?_, ?_⟩, ?_⟩
      · rw [if_neg (by omega), if_neg (by omega), if_neg (by omega), if_neg (by omega), if_pos (by omega), if_pos rfl]
      · rw [if_neg (by omega), if_neg (by omega), if_neg (by omega), if_pos rfl, if_pos rfl]
      · rw [if_neg (by omega), if_neg (by omega), if_pos rfl, if_pos rfl]
      · rw [if_neg (by omega), if_pos rfl, if_pos rfl]
      · rw [if_pos rfl, if_pos rfl]
      · simp only [if_pos trivial]; omega
    · refine ⟨⟨?_, ?_, ?_, ?_, ?_⟩, ?_⟩
      · rw [if_neg (by omega), if_neg (by omega), if_neg (by omega), if_neg (by omega), if_neg (by omega), if_neg (by omega), if_neg e]; exact hj.1.1
      · rw [if_neg (by omega), if_neg (by omega), if_neg (by omega), if_neg (by omega), if_neg (by omega), if_neg (by omega), if_neg e]; exact hj.1.2.1
      · rw [if_neg (by omega), if_neg (by omega), if_neg (by omega), if_neg (by omega), if_neg (by omega), if_neg (by omega), if_neg e]; exact hj.1.2.2.1
      · rw [if_neg (by omega), if_neg (by omega), if_neg (by omega), if_neg (by omega), if_neg (by omega), if_neg (by omega), if_neg e]; exact hj.1.2.2.2.1
      · rw [if_neg (by omega), if_neg (by omega), if_neg (by omega), if_neg (by omega), if_neg (by omega), if_neg (by omega), if_neg e]; exact hj.1.2.2.2.2
      · simp only [if_neg e]; exact hj.2
  · rw [zv_up_n (by omega), zv_up_n (by omega), zv_up_n (by omega), zv_up_n (by omega), zv_up_n (by omega), zv_up_n (by omega)]
theorem zl_starIs {i k t h : Int} {co ro br wc wr m : Int → Int} (hs : zl_sky t h co ro br wc wr m) : ∃ a, zf_X_starIs i k t h co ro br wc wr = some a ∧ zf_M_starIs i k m = some a := by
  obtain ⟨⟨t1, t2, t3⟩, ⟨h1, h2, h3⟩, hr⟩ := hs
  unfold zf_X_starIs zf_M_starIs
  rw [ze_Sky_hasStar t1 (by omega), ze_M_isTold (by omega) (by omega), t3, zl_b, zl_b]
  by_cases q : zs_has 24 t i = 0
  · rw [if_pos q, if_pos q]; exact ⟨-1, rfl, rfl⟩
  rw [if_neg q, if_neg q]
  obtain ⟨i1, i2, -⟩ := zs_has_ne q
  obtain ⟨⟨a1, a2, a3, a4, a5⟩, b1, b2, b3, b4, b5, b6, b7, b8, b9, b10⟩ := hr i i1 i2
  rw [zi_w_id (x := 0 + i) (by omega) (by omega), zi_w_id (x := 24 + i) (by omega) (by omega), zi_w_id (x := 48 + i) (by omega) (by omega), zi_w_id (x := 72 + i) (by omega) (by omega), zi_w_id (x := 96 + i) (by omega) (by omega), show 0 + i = i by omega, a1, a2, a3, a4, a5]
  rw [ze_Sky_standing i1 i2 b1 b2 h1 h2, ze_M_standsAt i1 i2 (by omega) (by omega) (by omega) (by omega), a1, h3]
  rw [show zi_ix i 24 = true from zi_ix_of i1 (by omega), show zi_ix i 422 = true from zi_ix_of i1 (by omega), show zi_ix (24 + i) 422 = true from zi_ix_of (by omega) (by omega), show zi_ix (48 + i) 422 = true from zi_ix_of (by omega) (by omega), show zi_ix (72 + i) 422 = true from zi_ix_of (by omega) (by omega), show zi_ix (96 + i) 422 = true from zi_ix_of (by omega) (by omega)]
  repeat' split
  all_goals exact ⟨_, rfl, rfl⟩
