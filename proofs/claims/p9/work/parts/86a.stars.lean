/-! star, walk, gone, hour, clouds, sight, seed, starIs, hours, steered, over: alike on both sides. -/
section YOP
variable {t h u cl sc sr ch : Int} {co ro br wc wr m : Int → Int}
theorem yo_star {i c r b : Int} (k : yk_sky t h u cl sc sr ch co ro br wc wr m) : ∃ a t' co' ro' br' wc' wr' m', zf_X_star i c r b t co ro br wc wr = some (a, t', co', ro', br', wc', wr') ∧ zf_M_star i c r b m = some (a, m') ∧ yk_sky t' h u cl sc sr ch co' ro' br' wc' wr' m' ∧ ∀ j, 120 ≤ j → j ≠ 126 → m' j = m j := by
  obtain ⟨⟨ht, k126⟩, ⟨hk2, k128⟩, k129, ⟨hk4, k130⟩, ⟨hk5, k131⟩, ⟨hk6, k132⟩, ⟨hk7, k133⟩, ki⟩ := id k
  unfold zf_X_star zf_M_star
  rw [ze_X_isWithin, ze_M_in, zl_b, zl_b]
  by_cases q1 : zs_in i 0 23 = 0
  · rw [if_pos q1, if_pos q1]
    exact ⟨0, t, co, ro, br, wc, wr, m, rfl, rfl, k, fun _ _ _ => rfl⟩
  rw [if_neg q1, if_neg q1, ze_X_isPlace, ze_M_isPlace, zl_b, zl_b]
  obtain ⟨i1, i2⟩ := zs_in_ne q1
  by_cases q2 : zs_pl c r = 0
  · rw [if_pos q2, if_pos q2]
    exact ⟨0, t, co, ro, br, wc, wr, m, rfl, rfl, k, fun _ _ _ => rfl⟩
  rw [if_neg q2, if_neg q2, ze_X_isWithin, ze_M_in, zl_b, zl_b]
  obtain ⟨c1, c2, c3, c4⟩ := zs_pl_ne q2
  by_cases q3 : zs_in b 1 9 = 0
  · rw [if_pos q3, if_pos q3]
    exact ⟨0, t, co, ro, br, wc, wr, m, rfl, rfl, k, fun _ _ _ => rfl⟩
  rw [if_neg q3, if_neg q3]
  obtain ⟨b1, b2⟩ := zs_in_ne q3
  rw [zi_w_id (x := 0 + i) (by omega) (by omega), zi_w_id (x := 24 + i) (by omega) (by omega), zi_w_id (x := 48 + i) (by omega) (by omega), zi_w_id (x := 72 + i) (by omega) (by omega), zi_w_id (x := 96 + i) (by omega) (by omega), Int.zero_add]
  rw [zl_ci (by omega) (by omega), zl_ci (by omega) (by omega), zl_ci (by omega) (by omega), zl_ci (by omega) (by omega), zl_ci (by omega) (by omega), zl_ci (by omega) (by omega)]
  have fr : ∀ v j, 120 ≤ j → j ≠ 126 → zv_up (zv_up (zv_up (zv_up (zv_up (zv_up m 126 v) i c) (24 + i) r) (48 + i) b) (72 + i) 0) (96 + i) 0 j = m j := fun v j j1 j2 => by
    rw [zv_up_n (by omega), zv_up_n (by omega), zv_up_n (by omega), zv_up_n (by omega), zv_up_n (by omega), zv_up_n j2]
  have f126 : ∀ v, zv_up (zv_up (zv_up (zv_up (zv_up (zv_up m 126 v) i c) (24 + i) r) (48 + i) b) (72 + i) 0) (96 + i) 0 126 = v := fun v => by
    rw [zv_up_n (by omega), zv_up_n (by omega), zv_up_n (by omega), zv_up_n (by omega), zv_up_n (by omega), zv_up_s]
  refine ⟨1, _, _, _, _, _, _, _, rfl, rfl, ⟨⟨z24_or ht (z24_shl i1 (by omega)), by rw [f126, k126]⟩, ⟨hk2, (fr _ _ (by decide) (by decide)).trans k128⟩, (fr _ _ (by decide) (by decide)).trans k129, ⟨hk4, (fr _ _ (by decide) (by decide)).trans k130⟩, ⟨hk5, (fr _ _ (by decide) (by decide)).trans k131⟩, ⟨hk6, (fr _ _ (by decide) (by decide)).trans k132⟩, ⟨hk7, (fr _ _ (by decide) (by decide)).trans k133⟩, fun j j1 j2 => ?_⟩, fr _⟩
  obtain ⟨hj1, hj2, hj3⟩ := ki j j1 j2
  unfold zv_up
  by_cases e : j = i
  · subst e
    rw [if_pos rfl, if_pos rfl, if_pos rfl, if_pos rfl, if_pos rfl]
    rw [if_neg (show ¬ j = 96 + j by omega), if_neg (show ¬ j = 72 + j by omega), if_neg (show ¬ j = 48 + j by omega), if_neg (show ¬ j = 24 + j by omega), if_pos rfl, if_neg (show ¬ 24 + j = 96 + j by omega), if_neg (show ¬ 24 + j = 72 + j by omega), if_neg (show ¬ 24 + j = 48 + j by omega), if_pos rfl, if_neg (show ¬ 48 + j = 96 + j by omega), if_neg (show ¬ 48 + j = 72 + j by omega), if_pos rfl, if_neg (show ¬ 72 + j = 96 + j by omega), if_pos rfl, if_pos rfl]
    exact ⟨⟨by omega, by omega, by omega, by omega, by omega⟩, ⟨by omega, by omega, by omega, by omega, by omega⟩, fun _ => ⟨rfl, rfl, rfl, rfl, rfl⟩⟩
  · rw [if_neg e, if_neg e, if_neg e, if_neg e, if_neg e]
    rw [if_neg (show ¬ j = 96 + i by omega), if_neg (show ¬ j = 72 + i by omega), if_neg (show ¬ j = 48 + i by omega), if_neg (show ¬ j = 24 + i by omega), if_neg e, if_neg (show ¬ j = 126 by omega)]
    rw [if_neg (show ¬ 24 + j = 96 + i by omega), if_neg (show ¬ 24 + j = 72 + i by omega), if_neg (show ¬ 24 + j = 48 + i by omega), if_neg (show ¬ 24 + j = 24 + i by omega), if_neg (show ¬ 24 + j = i by omega), if_neg (show ¬ 24 + j = 126 by omega)]
    rw [if_neg (show ¬ 48 + j = 96 + i by omega), if_neg (show ¬ 48 + j = 72 + i by omega), if_neg (show ¬ 48 + j = 48 + i by omega), if_neg (show ¬ 48 + j = 24 + i by omega), if_neg (show ¬ 48 + j = i by omega), if_neg (show ¬ 48 + j = 126 by omega)]
    rw [if_neg (show ¬ 72 + j = 96 + i by omega), if_neg (show ¬ 72 + j = 72 + i by omega), if_neg (show ¬ 72 + j = 48 + i by omega), if_neg (show ¬ 72 + j = 24 + i by omega), if_neg (show ¬ 72 + j = i by omega), if_neg (show ¬ 72 + j = 126 by omega)]
    rw [if_neg (show ¬ 96 + j = 96 + i by omega), if_neg (show ¬ 96 + j = 72 + i by omega), if_neg (show ¬ 96 + j = 48 + i by omega), if_neg (show ¬ 96 + j = 24 + i by omega), if_neg (show ¬ 96 + j = i by omega), if_neg (show ¬ 96 + j = 126 by omega)]
    refine ⟨hj1, hj2, fun hb => hj3 ?_⟩
    rw [zb_or, zb_shl i1 (by omega), decide_eq_false (by omega), Bool.or_false] at hb
    exact hb
theorem yo_gone {i : Int} (k : yk_sky t h u cl sc sr ch co ro br wc wr m) : ∃ a t' m', zf_X_gone i t = some (a, t') ∧ zf_M_gone i m = some (a, m') ∧ yk_sky t' h u cl sc sr ch co ro br wc wr m' ∧ ∀ j, j ≠ 126 → m' j = m j := by
  obtain ⟨⟨ht, k126⟩, ⟨hk2, k128⟩, k129, ⟨hk4, k130⟩, ⟨hk5, k131⟩, ⟨hk6, k132⟩, ⟨hk7, k133⟩, ki⟩ := id k
  have tin : 0 ≤ t ∧ t ≤ 2147483647 := ⟨ht.1, by have := ht.2; omega⟩
  unfold zf_X_gone zf_M_gone
  rw [ze_Sky_hasStar tin.1 tin.2, ze_M_isTold (by rw [k126]; exact tin.1) (by rw [k126]; exact tin.2), k126, zl_b, zl_b]
  by_cases q : zs_has 24 t i = 0
  · rw [if_pos q, if_pos q]
    exact ⟨0, t, m, rfl, rfl, k, fun _ _ => rfl⟩
  · rw [if_neg q, if_neg q]
    obtain ⟨i1, i2, -⟩ := zs_has_ne q
    refine ⟨1, _, _, rfl, rfl, ⟨⟨z24_and ht, zv_up_s⟩, ⟨hk2, by rw [zv_up_n (by decide)]; exact k128⟩, by rw [zv_up_n (by decide)]; exact k129, ⟨hk4, by rw [zv_up_n (by decide)]; exact k130⟩, ⟨hk5, by rw [zv_up_n (by decide)]; exact k131⟩, ⟨hk6, by rw [zv_up_n (by decide)]; exact k132⟩, ⟨hk7, by rw [zv_up_n (by decide)]; exact k133⟩, fun j j1 j2 => ?_⟩, fun j hj => zv_up_n hj⟩
    obtain ⟨hj1, hj2, hj3⟩ := ki j j1 j2
    rw [zv_up_n (by omega), zv_up_n (by omega), zv_up_n (by omega), zv_up_n (by omega), zv_up_n (by omega)]
    refine ⟨hj1, hj2, fun hb => hj3 ?_⟩
    rw [zb_and, Bool.and_eq_true] at hb
    exact hb.1
theorem yo_walk {i c r : Int} (k : yk_sky t h u cl sc sr ch co ro br wc wr m) : ∃ a wc' wr' m', zf_X_walk i c r t wc wr = some (a, wc', wr') ∧ zf_M_walk i c r m = some (a, m') ∧ yk_sky t h u cl sc sr ch co ro br wc' wr' m' ∧ ∀ j, 120 ≤ j → m' j = m j := by
  obtain ⟨⟨ht, k126⟩, ⟨hk2, k128⟩, k129, ⟨hk4, k130⟩, ⟨hk5, k131⟩, ⟨hk6, k132⟩, ⟨hk7, k133⟩, ki⟩ := id k
  have tin : 0 ≤ t ∧ t ≤ 2147483647 := ⟨ht.1, by have := ht.2; omega⟩
  unfold zf_X_walk zf_M_walk
  rw [ze_Sky_hasStar tin.1 tin.2, ze_M_isTold (by rw [k126]; exact tin.1) (by rw [k126]; exact tin.2), k126, zl_b, zl_b]
  by_cases q : zs_has 24 t i = 0
  · rw [if_pos q, if_pos q]
    exact ⟨0, wc, wr, m, rfl, rfl, k, fun _ _ => rfl⟩
  rw [if_neg q, if_neg q, ze_X_isWithin, ze_M_in, zl_b, zl_b]
  obtain ⟨i1, i2, -⟩ := zs_has_ne q
  by_cases q2 : zs_in c (-3) 3 = 0
  · rw [if_pos q2, if_pos q2]
    exact ⟨0, wc, wr, m, rfl, rfl, k, fun _ _ => rfl⟩
  rw [if_neg q2, if_neg q2, ze_X_isWithin, ze_M_in, zl_b, zl_b]
  obtain ⟨c1, c2⟩ := zs_in_ne q2
  by_cases q3 : zs_in r (-3) 3 = 0
  · rw [if_pos q3, if_pos q3]
    exact ⟨0, wc, wr, m, rfl, rfl, k, fun _ _ => rfl⟩
  rw [if_neg q3, if_neg q3]
  obtain ⟨r1, r2⟩ := zs_in_ne q3
  rw [zi_w_id (x := 72 + i) (by omega) (by omega), zi_w_id (x := 96 + i) (by omega) (by omega), zl_ci i1 (by omega), zl_ci (by omega) (by omega), zl_ci (by omega) (by omega)]
  have fr : ∀ j, j ≠ 72 + i → j ≠ 96 + i → zv_up (zv_up m (72 + i) c) (96 + i) r j = m j := fun j j1 j2 => by rw [zv_up_n j2, zv_up_n j1]
  refine ⟨1, _, _, _, rfl, rfl, ⟨⟨ht, (fr _ (by omega) (by omega)).trans k126⟩, ⟨hk2, (fr _ (by omega) (by omega)).trans k128⟩, (fr _ (by omega) (by omega)).trans k129, ⟨hk4, (fr _ (by omega) (by omega)).trans k130⟩, ⟨hk5, (fr _ (by omega) (by omega)).trans k131⟩, ⟨hk6, (fr _ (by omega) (by omega)).trans k132⟩, ⟨hk7, (fr _ (by omega) (by omega)).trans k133⟩, fun j j1 j2 => ?_⟩, fun j hj => fr j (by omega) (by omega)⟩
  obtain ⟨hj1, hj2, hj3⟩ := ki j j1 j2
  rw [fr j (by omega) (by omega), fr (24 + j) (by omega) (by omega), fr (48 + j) (by omega) (by omega)]
  by_cases e : j = i
  · subst e
    rw [zv_up_n (show 72 + j ≠ 96 + j by omega), zv_up_s, zv_up_s, zv_up_s, zv_up_s]
    obtain ⟨a1, a2, a3, -, -⟩ := hj1
    obtain ⟨b1, b2, b3, -, -⟩ := hj2
    exact ⟨⟨a1, a2, a3, ⟨c1, c2⟩, ⟨r1, r2⟩⟩, ⟨b1, b2, b3, ⟨c1, c2⟩, ⟨r1, r2⟩⟩, fun hb => ⟨(hj3 hb).1, (hj3 hb).2.1, (hj3 hb).2.2.1, rfl, rfl⟩⟩
  · rw [fr (72 + j) (by omega) (by omega), fr (96 + j) (by omega) (by omega), zv_up_n e, zv_up_n e]
    exact ⟨hj1, hj2, hj3⟩
theorem yo_hour {n : Int} (k : yk_sky t h u cl sc sr ch co ro br wc wr m) : ∃ a h' m', zf_X_hour n h = some (a, h') ∧ zf_M_hour n m = some (a, m') ∧ yk_sky t h' u cl sc sr ch co ro br wc wr m' ∧ ∀ j, j ≠ 128 → m' j = m j := by
  unfold zf_X_hour zf_M_hour
  rw [ze_X_isWithin, ze_M_in, zl_b, zl_b]
  by_cases q : zs_in n 0 23 = 0
  · rw [if_pos q, if_pos q]
    exact ⟨0, h, m, rfl, rfl, k, fun _ _ => rfl⟩
  · rw [if_neg q, if_neg q]
    obtain ⟨n1, n2⟩ := zs_in_ne q
    refine ⟨1, n, _, rfl, rfl, yk_hour k n1 n2 zv_up_s (by rw [zv_up_n (by decide)]; exact k.2.2.1) (fun j j1 _ => zv_up_n j1), fun j hj => zv_up_n hj⟩
theorem yo_clouds {n : Int} (k : yk_sky t h u cl sc sr ch co ro br wc wr m) : ∃ a c' m', zf_X_clouds n cl = some (a, c') ∧ zf_M_clouds n m = some (a, m') ∧ yk_sky t h u c' sc sr ch co ro br wc wr m' ∧ ∀ j, j ≠ 130 → m' j = m j := by
  unfold zf_X_clouds zf_M_clouds
  rw [ze_X_isWithin, ze_M_in, zl_b, zl_b]
  by_cases q : zs_in n 0 16777215 = 0
  · rw [if_pos q, if_pos q]
    exact ⟨0, cl, m, rfl, rfl, k, fun _ _ => rfl⟩
  · rw [if_neg q, if_neg q]
    obtain ⟨n1, n2⟩ := zs_in_ne q
    have k7 := k.2.2.2.2.2.2.1
    exact ⟨1, n, _, rfl, rfl, yk_cl2 k ⟨n1, n2⟩ k7.1.1 k7.1.2 zv_up_s (by rw [zv_up_n (by decide)]; exact k7.2) (fun j j1 _ => zv_up_n j1), fun j hj => zv_up_n hj⟩
theorem yo_seed {n : Int} (k : yk_sky t h u cl sc sr ch co ro br wc wr m) : ∃ a c' m', zf_X_seed n ch = some (a, c') ∧ zf_M_seed n m = some (a, m') ∧ yk_sky t h u cl sc sr c' co ro br wc wr m' ∧ ∀ j, j ≠ 133 → m' j = m j := by
  unfold zf_X_seed zf_M_seed
  rw [ze_X_isWithin, ze_M_in, zl_b, zl_b]
  by_cases q : zs_in n 0 65535 = 0
  · rw [if_pos q, if_pos q]
    exact ⟨0, ch, m, rfl, rfl, k, fun _ _ => rfl⟩
  · rw [if_neg q, if_neg q]
    obtain ⟨n1, n2⟩ := zs_in_ne q
    have k4 := k.2.2.2.1
    exact ⟨1, n, _, rfl, rfl, yk_cl2 k k4.1 n1 n2 (by rw [zv_up_n (by decide)]; exact k4.2) zv_up_s (fun j _ j1 => zv_up_n j1), fun j hj => zv_up_n hj⟩
theorem yo_sight {n n2 : Int} (k : yk_sky t h u cl sc sr ch co ro br wc wr m) : ∃ a v w m', zf_X_sight n n2 sc sr = some (a, v, w) ∧ zf_M_sight n n2 m = some (a, m') ∧ yk_sky t h u cl v w ch co ro br wc wr m' ∧ ∀ j, j ≠ 131 → j ≠ 132 → m' j = m j := by
  unfold zf_X_sight zf_M_sight
  rw [ze_X_isWithin, ze_M_in, zl_b, zl_b]
  by_cases q : zs_in n 0 11 = 0
  · rw [if_pos q, if_pos q]
    exact ⟨0, sc, sr, m, rfl, rfl, k, fun _ _ _ => rfl⟩
  rw [if_neg q, if_neg q, ze_X_isWithin, ze_M_in, zl_b, zl_b]
  by_cases q2 : zs_in n2 0 11 = 0
  · rw [if_pos q2, if_pos q2]
    exact ⟨0, sc, sr, m, rfl, rfl, k, fun _ _ _ => rfl⟩
  rw [if_neg q2, if_neg q2]
  obtain ⟨a1, a2⟩ := zs_in_ne q
  obtain ⟨b1, b2⟩ := zs_in_ne q2
  obtain ⟨⟨ht, k126⟩, ⟨hk2, k128⟩, k129, ⟨hk4, k130⟩, ⟨hk5, k131⟩, ⟨hk6, k132⟩, ⟨hk7, k133⟩, ki⟩ := id k
  have fr : ∀ j, j ≠ 131 → j ≠ 132 → zv_up (zv_up m 131 n) 132 n2 j = m j := fun j j1 j2 => by rw [zv_up_n j2, zv_up_n j1]
  refine ⟨1, n, n2, _, rfl, rfl, ⟨⟨ht, (fr _ (by decide) (by decide)).trans k126⟩, ⟨hk2, (fr _ (by decide) (by decide)).trans k128⟩, (fr _ (by decide) (by decide)).trans k129, ⟨hk4, (fr _ (by decide) (by decide)).trans k130⟩, ⟨⟨a1, a2⟩, rfl⟩, ⟨⟨b1, b2⟩, rfl⟩, ⟨hk7, (fr _ (by decide) (by decide)).trans k133⟩, fun j j1 j2 => ?_⟩, fr⟩
  rw [fr j (by omega) (by omega), fr (24 + j) (by omega) (by omega), fr (48 + j) (by omega) (by omega), fr (72 + j) (by omega) (by omega), fr (96 + j) (by omega) (by omega)]
  exact ki j j1 j2
theorem yo_starIs {i w : Int} (k : yk_sky t h u cl sc sr ch co ro br wc wr m) : ∃ a, zf_X_starIs i w t h co ro br wc wr = some a ∧ zf_M_starIs i w m = some a := by
  obtain ⟨⟨ht, k126⟩, ⟨⟨h1, h2⟩, k128⟩, k129, -, -, -, -, ki⟩ := k
  have tin : 0 ≤ t ∧ t ≤ 2147483647 := ⟨ht.1, by have := ht.2; omega⟩
  unfold zf_X_starIs zf_M_starIs
  rw [ze_Sky_hasStar tin.1 tin.2, ze_M_isTold (by rw [k126]; exact tin.1) (by rw [k126]; exact tin.2), k126, zl_b, zl_b]
  by_cases q : zs_has 24 t i = 0
  · rw [if_pos q, if_pos q]; exact ⟨-1, rfl, rfl⟩
  rw [if_neg q, if_neg q]
  obtain ⟨i1, i2, hb⟩ := zs_has_ne q
  rw [zb_tb2 tin.1 tin.2] at hb
  obtain ⟨⟨⟨c1, c2⟩, -⟩, -, e⟩ := ki i i1 i2
  obtain ⟨a1, a2, a3, a4, a5⟩ := e hb
  rw [zi_w_id (x := 0 + i) (by omega) (by omega), zi_w_id (x := 24 + i) (by omega) (by omega), zi_w_id (x := 48 + i) (by omega) (by omega), zi_w_id (x := 72 + i) (by omega) (by omega), zi_w_id (x := 96 + i) (by omega) (by omega), show 0 + i = i by omega, a1, a2, a3, a4, a5]
  rw [ze_Sky_standing i1 i2 c1 c2 h1 h2, ze_M_standsAt i1 i2 (by omega) (by omega) (by omega) (by omega), a1, k128]
  rw [show zi_ix i 24 = true from zi_ix_of i1 (by omega), show zi_ix i 422 = true from zi_ix_of i1 (by omega), show zi_ix (24 + i) 422 = true from zi_ix_of (by omega) (by omega), show zi_ix (48 + i) 422 = true from zi_ix_of (by omega) (by omega), show zi_ix (72 + i) 422 = true from zi_ix_of (by omega) (by omega), show zi_ix (96 + i) 422 = true from zi_ix_of (by omega) (by omega)]
  repeat' split
  all_goals exact ⟨_, rfl, rfl⟩
theorem yo_hours_l {N : Int} (hN : N ≤ 240) : ∀ (d : Nat) (j h u : Int) (co ro m : Int → Int) (n n2 : Nat), N - j ≤ d → 0 ≤ j → d < n → d < n2 → yk_sky t h u cl sc sr ch co ro br wc wr m →
    ∃ h' u' co' ro' m', zf_X_hours_l0 N wc wr n j h u co ro = some (h', u', co', ro') ∧ zf_M_hours_l0 N n2 j m = some m' ∧ yk_sky t h' u' cl sc sr ch co' ro' br wc wr m' ∧ ∀ x, 48 ≤ x → x ≠ 128 → x ≠ 129 → m' x = m x := by
  intro d
  induction d with
  | zero =>
    intro j h u co ro m n n2 hd j0 hn hn2 k
    obtain ⟨n, rfl⟩ : ∃ q, n = q + 1 := ⟨n - 1, by omega⟩
    obtain ⟨n2, rfl⟩ : ∃ q, n2 = q + 1 := ⟨n2 - 1, by omega⟩
    refine ⟨h, u, co, ro, m, ?_, ?_, k, fun _ _ _ _ => rfl⟩
    · show zf_X_hours_l0_b N wc wr (zf_X_hours_l0 N wc wr n) j h u co ro = _
      unfold zf_X_hours_l0_b
      rw [if_neg (by omega)]
    · show zf_M_hours_l0_b N (zf_M_hours_l0 N n2) j m = _
      unfold zf_M_hours_l0_b
      rw [if_neg (by omega)]
  | succ d ih =>
    intro j h u co ro m n n2 hd j0 hn hn2 k
    obtain ⟨n, rfl⟩ : ∃ q, n = q + 1 := ⟨n - 1, by omega⟩
    obtain ⟨n2, rfl⟩ : ∃ q, n2 = q + 1 := ⟨n2 - 1, by omega⟩
    show ∃ h' u' co' ro' m', zf_X_hours_l0_b N wc wr (zf_X_hours_l0 N wc wr n) j h u co ro = _ ∧ zf_M_hours_l0_b N (zf_M_hours_l0 N n2) j m = _ ∧ _
    unfold zf_X_hours_l0_b zf_M_hours_l0_b
    by_cases hj : j < N
    · obtain ⟨h1, u1, co1, ro1, m1, e1, e2, e3, e4⟩ := yk_pass k
      rw [if_pos hj, if_pos hj, e1, zl_b, e2, zl_b, zi_w_id (x := j + 1) (by omega) (by omega)]
      obtain ⟨h', u', co', ro', m', x1, x2, x3, x4⟩ := ih (j + 1) h1 u1 co1 ro1 m1 n n2 (by omega) (by omega) (by omega) (by omega) e3
      exact ⟨h', u', co', ro', m', x1, x2, x3, fun x a b c => (x4 x a b c).trans (e4 x a b c)⟩
    · rw [if_neg hj, if_neg hj]
      exact ⟨_, _, _, _, _, rfl, rfl, k, fun _ _ _ _ => rfl⟩
theorem yo_hours {N : Int} (k : yk_sky t h u cl sc sr ch co ro br wc wr m) : ∃ a h' u' co' ro' m', zf_X_hours N h u co wc ro wr = some (a, h', u', co', ro') ∧ zf_M_hours N m = some (a, m') ∧ yk_sky t h' u' cl sc sr ch co' ro' br wc wr m' ∧ ∀ x, 48 ≤ x → x ≠ 128 → x ≠ 129 → m' x = m x := by
  unfold zf_X_hours zf_M_hours
  rw [ze_X_isWithin, ze_M_in, zl_b, zl_b]
  by_cases q : zs_in N 1 240 = 0
  · rw [if_pos q, if_pos q]
    exact ⟨-1, h, u, co, ro, m, rfl, rfl, k, fun _ _ _ _ => rfl⟩
  · obtain ⟨n1, n2⟩ := zs_in_ne q
    obtain ⟨h', u', co', ro', m', e1, e2, e3, e4⟩ := yo_hours_l n2 240 0 h u co ro m zi_fu zi_fu (by omega) (by decide) (by decide) (by decide) k
    rw [if_neg q, if_neg q, e1, zl_b, e2, zl_b]
    exact ⟨u', h', u', co', ro', m', rfl, by rw [e3.2.2.1], e3, e4⟩
end YOP
