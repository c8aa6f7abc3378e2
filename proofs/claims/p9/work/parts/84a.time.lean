/-! Hours and nights that pass, clouds that are drawn: alike on both sides. -/
def yg_cl (v : Int) : Int := if v < 0 then 0 else if 11 < v then 11 else v
theorem ze_floorMod {a : Int} (h1 : -40 ≤ a) (h2 : a < 88) : zf_Math_floorMod a 24 = some (a % 24) := by
  have h : ∀ k : Nat, k < 128 → zf_Math_floorMod ((k : Int) - 40) 24 = some (((k : Int) - 40) % 24) := by decide +kernel
  have := h (a + 40).toNat (by omega)
  rwa [show (((a + 40).toNat : Nat) : Int) - 40 = a by omega] at this
theorem ze_begin_l0 {wc wr : Int → Int} (hw : ∀ i, 0 ≤ i → i < 24 → (-3 ≤ wc i ∧ wc i ≤ 3) ∧ (-3 ≤ wr i ∧ wr i ≤ 3)) : ∀ (d : Nat) (i : Int) (co ro : Int → Int) (n : Nat), i + d = 24 → 0 ≤ i → d < n → (∀ j, 0 ≤ j → j < 24 → (0 ≤ co j ∧ co j ≤ 23) ∧ (0 ≤ ro j ∧ ro j ≤ 11)) →
    ∃ co' ro', zf_Sky_beginNight_l0 wc wr n i co ro = some (co', ro') ∧ (∀ j, i ≤ j → j < 24 → co' j = (co j + wc j) % 24 ∧ ro' j = yg_cl (ro j + wr j)) ∧ ∀ j, j < i → co' j = co j ∧ ro' j = ro j := by
  intro d
  induction d with
  | zero =>
    intro i co ro n e i0 hn hr
    obtain ⟨n, rfl⟩ : ∃ q, n = q + 1 := ⟨n - 1, by omega⟩
    refine ⟨co, ro, ?_, fun j a b => by omega, fun _ _ => ⟨rfl, rfl⟩⟩
    show zf_Sky_beginNight_l0_b wc wr (zf_Sky_beginNight_l0 wc wr n) i co ro = _
    unfold zf_Sky_beginNight_l0_b
    rw [if_neg (by omega)]
  | succ d ih =>
    intro i co ro n e i0 hn hr
    obtain ⟨n, rfl⟩ : ∃ q, n = q + 1 := ⟨n - 1, by omega⟩
    obtain ⟨⟨c1, c2⟩, ⟨r1, r2⟩⟩ := hr i i0 (by omega)
    obtain ⟨⟨w1, w2⟩, ⟨w3, w4⟩⟩ := hw i i0 (by omega)
    show ∃ co' ro', zf_Sky_beginNight_l0_b wc wr (zf_Sky_beginNight_l0 wc wr n) i co ro = _ ∧ _
    unfold zf_Sky_beginNight_l0_b zf_Sky_columnNextNight zf_Sky_rowNextNight
    rw [if_pos (by omega), zl_ci i0 (by omega), zl_ci i0 (by omega), zi_w_id (x := co i + wc i) (by omega) (by omega), ze_floorMod (by omega) (by omega), zl_b, zl_b, zl_ci i0 (by omega), zi_w_id (x := ro i + wr i) (by omega) (by omega), ze_Math_min, zl_b, ze_Math_max, zl_b, zl_b, zi_w_id (x := i + 1) (by omega) (by omega)]
    have ecl : (if 0 < (if ro i + wr i < 11 then ro i + wr i else 11) then (if ro i + wr i < 11 then ro i + wr i else 11) else 0) = yg_cl (ro i + wr i) := by
      unfold yg_cl
      (repeat' split) <;> omega
    have hcl : 0 ≤ yg_cl (ro i + wr i) ∧ yg_cl (ro i + wr i) ≤ 11 := by
      unfold yg_cl
      (repeat' split) <;> omega
    rw [ecl]
    obtain ⟨co', ro', e1, e2, e3⟩ := ih (i + 1) (zv_up co i ((co i + wc i) % 24)) (zv_up ro i (yg_cl (ro i + wr i))) n (by omega) (by omega) (by omega) (fun j j0 j1 => by
      by_cases ej : j = i
      · subst ej
        rw [zv_up_s, zv_up_s]
        exact ⟨⟨by omega, by omega⟩, hcl⟩
      · rw [zv_up_n ej, zv_up_n ej]
        exact hr j j0 j1)
    refine ⟨co', ro', e1, fun j j0 j1 => ?_, fun j j0 => ?_⟩
    · by_cases ej : j = i
      · subst ej
        obtain ⟨a1, a2⟩ := e3 j (by omega)
        rw [a1, a2, zv_up_s, zv_up_s]
        exact ⟨rfl, rfl⟩
      · have := e2 j (by omega) j1
        rw [zv_up_n ej, zv_up_n ej] at this
        exact this
    · obtain ⟨a1, a2⟩ := e3 j (by omega)
      rw [a1, a2, zv_up_n (by omega), zv_up_n (by omega)]
      exact ⟨rfl, rfl⟩
theorem ze_walks_l0 {t : Int} (ht : z24 t) : ∀ (d : Nat) (i : Int) (m : Int → Int) (n : Nat), i + d = 24 → 0 ≤ i → d < n → m 126 = t → (∀ j, 0 ≤ j → j < 24 → (0 ≤ m j ∧ m j ≤ 23) ∧ (0 ≤ m (24 + j) ∧ m (24 + j) ≤ 11) ∧ (-3 ≤ m (72 + j) ∧ m (72 + j) ≤ 3) ∧ (-3 ≤ m (96 + j) ∧ m (96 + j) ≤ 3)) →
    ∃ m', zf_M_walks_l0 n i m = some m' ∧ (∀ j, 48 ≤ j → m' j = m j) ∧ (∀ j, j < i → 0 ≤ j → m' j = m j ∧ m' (24 + j) = m (24 + j)) ∧ ∀ j, i ≤ j → j < 24 → (zb t j.toNat = true → m' j = (m j + m (72 + j)) % 24 ∧ m' (24 + j) = yg_cl (m (24 + j) + m (96 + j))) ∧ (¬ zb t j.toNat = true → m' j = m j ∧ m' (24 + j) = m (24 + j)) := by
  have tin : 0 ≤ t ∧ t ≤ 2147483647 := ⟨ht.1, by have := ht.2; omega⟩
  intro d
  induction d with
  | zero =>
    intro i m n e i0 hn h126 hr
    obtain ⟨n, rfl⟩ : ∃ q, n = q + 1 := ⟨n - 1, by omega⟩
    refine ⟨m, ?_, fun _ _ => rfl, fun _ _ _ => ⟨rfl, rfl⟩, fun j a b => by omega⟩
    show zf_M_walks_l0_b (zf_M_walks_l0 n) i m = _
    unfold zf_M_walks_l0_b
    rw [if_neg (by omega)]
  | succ d ih =>
    intro i m n e i0 hn h126 hr
    obtain ⟨n, rfl⟩ : ∃ q, n = q + 1 := ⟨n - 1, by omega⟩
    obtain ⟨⟨c1, c2⟩, ⟨r1, r2⟩, ⟨w1, w2⟩, ⟨w3, w4⟩⟩ := hr i i0 (by omega)
    show ∃ m', zf_M_walks_l0_b (zf_M_walks_l0 n) i m = _ ∧ _
    unfold zf_M_walks_l0_b
    rw [if_pos (by omega), ze_M_isTold (by rw [h126]; exact tin.1) (by rw [h126]; exact tin.2), zl_b, h126, zi_w_id (x := i + 1) (by omega) (by omega)]
    by_cases hti : zb t i.toNat = true
    · rw [zs_has1 tin.1 tin.2 i0 (by omega) hti, if_neg (show ¬ (1 : Int) = 0 by decide), zi_w_id (x := 0 + i) (by omega) (by omega), zi_w_id (x := 72 + i) (by omega) (by omega), zi_w_id (x := 24 + i) (by omega) (by omega), zi_w_id (x := 96 + i) (by omega) (by omega), Int.zero_add, zl_ci (by omega) (by omega), zl_ci (by omega) (by omega), zl_ci (by omega) (by omega), zl_ci (by omega) (by omega)]
      rw [zv_up_n (show 24 + i ≠ i by omega), zv_up_n (show 96 + i ≠ i by omega), zi_w_id (x := m i + m (72 + i)) (by omega) (by omega), zi_w_id (x := m i + m (72 + i) + 24) (by omega) (by omega), zi_rem_eq (by omega) (by omega) (by decide) (by decide), zi_w_id (x := m (24 + i) + m (96 + i)) (by omega) (by omega)]
      have eh : zf_M_held (m (24 + i) + m (96 + i)) 11 = some (yg_cl (m (24 + i) + m (96 + i))) := by
        unfold zf_M_held yg_cl
        (repeat' split) <;> rfl
      have hcl : 0 ≤ yg_cl (m (24 + i) + m (96 + i)) ∧ yg_cl (m (24 + i) + m (96 + i)) ≤ 11 := by
        unfold yg_cl
        (repeat' split) <;> omega
      rw [eh, zl_b]
      obtain ⟨m', e1, e2, e3, e4⟩ := ih (i + 1) (zv_up (zv_up m i ((m i + m (72 + i) + 24) % 24)) (24 + i) (yg_cl (m (24 + i) + m (96 + i)))) n (by omega) (by omega) (by omega) (by rw [zv_up_n (by omega), zv_up_n (by omega)]; exact h126) (fun j j0 j1 => by
        have hj := hr j j0 j1
        rw [zv_up_n (show 72 + j ≠ 24 + i by omega), zv_up_n (show 72 + j ≠ i by omega), zv_up_n (show 96 + j ≠ 24 + i by omega), zv_up_n (show 96 + j ≠ i by omega), zv_up_n (show j ≠ 24 + i by omega)]
        by_cases ej : j = i
        · subst ej
          rw [zv_up_s, zv_up_s]
          exact ⟨⟨by omega, by omega⟩, hcl, hj.2.2⟩
        · rw [zv_up_n ej, zv_up_n (show 24 + j ≠ 24 + i by omega), zv_up_n (show 24 + j ≠ i by omega)]
          exact hj)
      refine ⟨m', e1, fun j hj => ?_, fun j j1 j0 => ?_, fun j j0 j1 => ?_⟩
      · rw [e2 j hj, zv_up_n (by omega), zv_up_n (by omega)]
      · obtain ⟨a1, a2⟩ := e3 j (by omega) j0
        rw [a1, a2, zv_up_n (show j ≠ 24 + i by omega), zv_up_n (show j ≠ i by omega), zv_up_n (show 24 + j ≠ 24 + i by omega), zv_up_n (show 24 + j ≠ i by omega)]
        exact ⟨rfl, rfl⟩
      · by_cases ej : j = i
        · subst ej
          obtain ⟨a1, a2⟩ := e3 j (by omega) (by omega)
          rw [a1, a2, zv_up_n (show j ≠ 24 + j by omega), zv_up_s, zv_up_s]
          exact ⟨fun _ => ⟨by omega, rfl⟩, fun hn => absurd hti hn⟩
        · have := e4 j (by omega) j1
          rw [zv_up_n (show j ≠ 24 + i by omega), zv_up_n ej, zv_up_n (show 72 + j ≠ 24 + i by omega), zv_up_n (show 72 + j ≠ i by omega), zv_up_n (show 24 + j ≠ 24 + i by omega), zv_up_n (show 24 + j ≠ i by omega), zv_up_n (show 96 + j ≠ 24 + i by omega), zv_up_n (show 96 + j ≠ i by omega)] at this
          exact this
    · rw [zs_has0 tin.1 tin.2 hti, if_pos rfl]
      obtain ⟨m', e1, e2, e3, e4⟩ := ih (i + 1) m n (by omega) (by omega) (by omega) h126 hr
      refine ⟨m', e1, e2, fun j j1 j0 => e3 j (by omega) j0, fun j j0 j1 => ?_⟩
      by_cases ej : j = i
      · subst ej
        exact ⟨fun hh => absurd hh hti, fun _ => e3 j (by omega) (by omega)⟩
      · exact e4 j (by omega) j1
section YKT
variable {t h u cl sc sr ch : Int} {co ro br wc wr m : Int → Int}
theorem yk_walks (k : yk_sky t h u cl sc sr ch co ro br wc wr m) : ∃ co' ro' m', zf_Sky_beginNight_l0 wc wr zi_fu 0 co ro = some (co', ro') ∧ zf_M_walks m = some m' ∧ (∀ j, 48 ≤ j → m' j = m j) ∧ yk_sky t h u cl sc sr ch co' ro' br wc wr m' ∧ (∀ i, 0 ≤ i → i < 24 → co' i = (co i + wc i) % 24 ∧ ro' i = yg_cl (ro i + wr i)) := by
  obtain ⟨⟨ht, k126⟩, hk2, k129, hk4, hk5, hk6, hk7, ki⟩ := k
  obtain ⟨co', ro', e1, e2, -⟩ := ze_begin_l0 (wc := wc) (wr := wr) (fun i i0 i1 => ⟨(ki i i0 i1).1.2.2.2.1, (ki i i0 i1).1.2.2.2.2⟩) 24 0 co ro zi_fu (by decide) (by decide) (by decide) (fun i i0 i1 => ⟨(ki i i0 i1).1.1, (ki i i0 i1).1.2.1⟩)
  obtain ⟨m', f1, f2, -, f4⟩ := ze_walks_l0 ht 24 0 m zi_fu (by decide) (by decide) (by decide) k126 (fun i i0 i1 => ⟨(ki i i0 i1).2.1.1, (ki i i0 i1).2.1.2.1, (ki i i0 i1).2.1.2.2.2.1, (ki i i0 i1).2.1.2.2.2.2⟩)
  refine ⟨co', ro', m', e1, by unfold zf_M_walks; rw [f1]; rfl, f2, ⟨⟨ht, by rw [f2 _ (by decide)]; exact k126⟩, ⟨hk2.1, by rw [f2 _ (by decide)]; exact hk2.2⟩, by rw [f2 _ (by decide)]; exact k129, ⟨hk4.1, by rw [f2 _ (by decide)]; exact hk4.2⟩, ⟨hk5.1, by rw [f2 _ (by decide)]; exact hk5.2⟩, ⟨hk6.1, by rw [f2 _ (by decide)]; exact hk6.2⟩, ⟨hk7.1, by rw [f2 _ (by decide)]; exact hk7.2⟩, fun i i0 i1 => ?_⟩, fun i i0 i1 => e2 i i0 i1⟩
  obtain ⟨⟨a1, a2, a3, a4, a5⟩, ⟨b1, b2, b3, b4, b5⟩, c⟩ := ki i i0 i1
  obtain ⟨x1, x2⟩ := e2 i i0 i1
  obtain ⟨y1, y2⟩ := f4 i i0 i1
  have hcl : ∀ v, 0 ≤ yg_cl v ∧ yg_cl v ≤ 11 := fun v => by
    unfold yg_cl
    (repeat' split) <;> omega
  rw [f2 (48 + i) (by omega), f2 (72 + i) (by omega), f2 (96 + i) (by omega), x1, x2]
  refine ⟨⟨⟨by omega, by omega⟩, hcl _, a3, a4, a5⟩, ⟨?_, ?_, b3, b4, b5⟩, fun hb => ?_⟩
  · by_cases hb : zb t i.toNat = true
    · rw [(y1 hb).1]; exact ⟨by omega, by omega⟩
    · rw [(y2 hb).1]; exact b1
  · by_cases hb : zb t i.toNat = true
    · rw [(y1 hb).2]; exact hcl _
    · rw [(y2 hb).2]; exact b2
  · obtain ⟨c1, c2, c3, c4, c5⟩ := c hb
    obtain ⟨z1, z2⟩ := y1 hb
    rw [z1, z2, c1, c2, c4, c5]
    exact ⟨rfl, rfl, c3, rfl, rfl⟩
/-- another hour -/
theorem yk_hour (k : yk_sky t h u cl sc sr ch co ro br wc wr m) {h2 u2 : Int} (a1 : 0 ≤ h2) (a2 : h2 ≤ 23) {m2 : Int → Int} (e1 : m2 128 = h2) (e2 : m2 129 = u2) (e : ∀ j, j ≠ 128 → j ≠ 129 → m2 j = m j) : yk_sky t h2 u2 cl sc sr ch co ro br wc wr m2 := by
  obtain ⟨⟨ht, k126⟩, hk2, k129, hk4, hk5, hk6, hk7, ki⟩ := k
  refine ⟨⟨ht, by rw [e _ (by decide) (by decide)]; exact k126⟩, ⟨⟨a1, a2⟩, e1⟩, e2, ⟨hk4.1, by rw [e _ (by decide) (by decide)]; exact hk4.2⟩, ⟨hk5.1, by rw [e _ (by decide) (by decide)]; exact hk5.2⟩, ⟨hk6.1, by rw [e _ (by decide) (by decide)]; exact hk6.2⟩, ⟨hk7.1, by rw [e _ (by decide) (by decide)]; exact hk7.2⟩, fun i i0 i1 => ?_⟩
  rw [e i (by omega) (by omega), e (24 + i) (by omega) (by omega), e (48 + i) (by omega) (by omega), e (72 + i) (by omega) (by omega), e (96 + i) (by omega) (by omega)]
  exact ki i i0 i1
theorem yk_pass (k : yk_sky t h u cl sc sr ch co ro br wc wr m) : ∃ h' u' co' ro' m', zf_Sky_passHour h u co wc ro wr = some (h', u', co', ro') ∧ zf_M_passes m = some m' ∧ yk_sky t h' u' cl sc sr ch co' ro' br wc wr m' ∧ ∀ j, 48 ≤ j → j ≠ 128 → j ≠ 129 → m' j = m j := by
  obtain ⟨-, ⟨⟨h1, h2⟩, k128⟩, k129, -⟩ := id k
  unfold zf_Sky_passHour zf_M_passes
  rw [k128, zi_w_id (x := h + 1) (by omega) (by omega), zv_up_s]
  by_cases e : h + 1 = 24
  · rw [if_pos e, if_neg (by omega)]
    have k2 := yk_hour (h2 := 0) (u2 := zi_w (u + 1)) (m2 := zv_up (zv_up (zv_up m 128 (h + 1)) 128 0) 129 (zi_w (u + 1))) k (by decide) (by decide) (by rw [zv_up_n (by decide), zv_up_s]) zv_up_s (fun j j1 j2 => by rw [zv_up_n j2, zv_up_n j1, zv_up_n j1])
    obtain ⟨co', ro', m', e1, e2, e3, e4, -⟩ := yk_walks k2
    refine ⟨0, zi_w (u + 1), co', ro', m', ?_, ?_, e4, fun j j0 j1 j2 => ?_⟩
    · unfold zf_Sky_beginNight
      rw [e1]; rfl
    · rw [zv_up_n (show (129 : Int) ≠ 128 by decide), zv_up_n (show (129 : Int) ≠ 128 by decide), k129, e2]; rfl
    · rw [e3 j j0, zv_up_n j2, zv_up_n j1, zv_up_n j1]
  · rw [if_neg e, if_pos (by omega)]
    refine ⟨h + 1, u, co, ro, _, rfl, rfl, yk_hour k (by omega) (by omega) zv_up_s (by rw [zv_up_n (by decide)]; exact k129) (fun j j1 _ => zv_up_n j1), fun j _ j1 _ => zv_up_n j1⟩
/-- nights that pass without hours -/
theorem yk_night (k : yk_sky t h u cl sc sr ch co ro br wc wr m) : ∃ co' ro' m', zf_Sky_beginNight u co wc ro wr = some (zi_w (u + 1), co', ro') ∧ zf_M_walks (zv_up m 129 (zi_w (m 129 + 1))) = some m' ∧ yk_sky t h (zi_w (u + 1)) cl sc sr ch co' ro' br wc wr m' ∧ ∀ j, 48 ≤ j → j ≠ 129 → m' j = m j := by
  obtain ⟨-, ⟨⟨h1, h2⟩, k128⟩, k129, -⟩ := id k
  have k2 := yk_hour (h2 := h) (u2 := zi_w (u + 1)) (m2 := zv_up m 129 (zi_w (m 129 + 1))) k h1 h2 (by rw [zv_up_n (by decide)]; exact k128) (by rw [zv_up_s, k129]) (fun j j1 j2 => zv_up_n j2)
  obtain ⟨co', ro', m', e1, e2, e3, e4, -⟩ := yk_walks k2
  refine ⟨co', ro', m', ?_, e2, e4, fun j j0 j2 => ?_⟩
  · unfold zf_Sky_beginNight
    rw [e1]; rfl
  · rw [e3 j j0, zv_up_n j2]
end YKT
