/-! What gone and walk do, on both sides. -/
theorem zl_gone {i t h : Int} {co ro br wc wr m : Int → Int} (hs : zl_sky t h co ro br wc wr m) : ∃ a t' m', zf_X_gone i t = some (a, t') ∧ zf_M_gone i m = some (a, m') ∧ zl_sky t' h co ro br wc wr m' ∧ ∀ j, j ≠ 126 → m' j = m j := by
  obtain ⟨⟨t1, t2, t3⟩, ⟨h1, h2, h3⟩, hr⟩ := id hs
  unfold zf_X_gone zf_M_gone
  rw [ze_Sky_hasStar t1 (by omega), ze_M_isTold (by omega) (by omega), t3, zl_b, zl_b]
  by_cases q : zs_has 24 t i = 0
  · rw [if_pos q, if_pos q]
    exact ⟨0, t, m, rfl, rfl, hs, fun _ _ => rfl⟩
  rw [if_neg q, if_neg q]
  obtain ⟨i1, i2, -⟩ := zs_has_ne q
  obtain ⟨o1, o2, -⟩ := zi_clr t1 (by omega : t ≤ 2147483647) i1 (by omega : i < 31)
  refine ⟨1, _, _, rfl, rfl, ⟨⟨o1, by omega, zv_up_s⟩, ⟨h1, h2, ?_⟩, fun j j1 j2 => ?_⟩, fun j hj => zv_up_n hj⟩
  · rw [zv_up_n (by omega)]; exact h3
  · rw [zv_up_n (by omega), zv_up_n (by omega), zv_up_n (by omega), zv_up_n (by omega), zv_up_n (by omega)]
    exact hr j j1 j2
theorem zl_walk {i c r t h : Int} {co ro br wc wr m : Int → Int} (hs : zl_sky t h co ro br wc wr m) : ∃ a wc' wr' m', zf_X_walk i c r t wc wr = some (a, wc', wr') ∧ zf_M_walk i c r m = some (a, m') ∧ zl_sky t h co ro br wc' wr' m' ∧ ∀ j, 126 ≤ j → m' j = m j := by
  obtain ⟨⟨t1, t2, t3⟩, ⟨h1, h2, h3⟩, hr⟩ := id hs
  unfold zf_X_walk zf_M_walk
  rw [ze_Sky_hasStar t1 (by omega), ze_M_isTold (by omega) (by omega), t3, zl_b, zl_b]
  by_cases q : zs_has 24 t i = 0
  · rw [if_pos q, if_pos q]
    exact ⟨0, wc, wr, m, rfl, rfl, hs, fun _ _ => rfl⟩
  rw [if_neg q, if_neg q, ze_X_isWithin, ze_M_in, zl_b, zl_b]
  obtain ⟨i1, i2, -⟩ := zs_has_ne q
  by_cases q2 : zs_in c (-3) 3 = 0
  · rw [if_pos q2, if_pos q2]
    exact ⟨0, wc, wr, m, rfl, rfl, hs, fun _ _ => rfl⟩
  rw [if_neg q2, if_neg q2, ze_X_isWithin, ze_M_in, zl_b, zl_b]
  obtain ⟨c1, c2⟩ := zs_in_ne q2
  by_cases q3 : zs_in r (-3) 3 = 0
  · rw [if_pos q3, if_pos q3]
    exact ⟨0, wc, wr, m, rfl, rfl, hs, fun _ _ => rfl⟩
  rw [if_neg q3, if_neg q3]
  obtain ⟨r1, r2⟩ := zs_in_ne q3
  rw [zi_w_id (x := 72 + i) (by omega) (by omega), zi_w_id (x := 96 + i) (by omega) (by omega), zl_c (zi_ix_of (by omega) (by omega)), zl_c (zi_ix_of (by omega) (by omega)), zl_c (zi_ix_of (by omega) (by omega))]
  refine ⟨1, _, _, _, rfl, rfl, ⟨⟨t1, t2, ?_⟩, ⟨h1, h2, ?_⟩, fun j j1 j2 => ?_⟩, fun j hj => ?_⟩
  · rw [zv_up_n (by omega), zv_up_n (by omega)]; exact t3
  · rw [zv_up_n (by omega), zv_up_n (by omega)]; exact h3
  · have hj := hr j j1 j2
    rw [zv_up_n (i := j) (by omega), zv_up_n (i := j) (by omega), zv_up_n (i := 24 + j) (by omega), zv_up_n (i := 24 + j) (by omega), zv_up_n (i := 48 + j) (by omega), zv_up_n (i := 48 + j) (by omega)]
    refine ⟨⟨hj.1.1, hj.1.2.1, hj.1.2.2.1, ?_, ?_⟩, ?_⟩
    · unfold zv_up
      by_cases e : j = i
      · subst e; rw [if_neg (by omega), if_pos rfl, if_pos rfl]
      · rw [if_neg (by omega), if_neg (by omega), if_neg e]; exact hj.1.2.2.2.1
    · unfold zv_up
      by_cases e : j = i
      · subst e; rw [if_pos rfl, if_pos rfl]
      · rw [if_neg (by omega), if_neg (by omega), if_neg e]; exact hj.1.2.2.2.2
    · unfold zv_up
      by_cases e : j = i
      · simp only [if_pos e]; omega
      · simp only [if_neg e]; exact hj.2
  · rw [zv_up_n (by omega), zv_up_n (by omega)]
