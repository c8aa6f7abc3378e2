/-! Clouds that are drawn, alike on both sides. -/
def yv_lq (h u c : Int) : Int → Int := fun j => if j = 0 then h else if j = 1 then u else if j = 5 then c else 0
def yg_lot (c : Int) : Int := (25173 * c + 13849) % 65536
theorem ze_lot {c : Int} (h1 : 0 ≤ c) (h2 : c ≤ 65535) : zi_rem (zi_w ((zi_w (25173 * c)) + 13849)) 65536 = yg_lot c ∧ 0 ≤ yg_lot c ∧ yg_lot c ≤ 65535 := by
  refine ⟨?_, ?_, ?_⟩
  · rw [zi_w_id (x := 25173 * c) (by omega) (by omega), zi_w_id (x := 25173 * c + 13849) (by omega) (by omega), zi_rem_eq (by omega) (by omega) (by decide) (by decide)]
    rfl
  · unfold yg_lot; omega
  · unfold yg_lot; omega
section YKC
variable {L : zLW} {K V kd fr hf to C mk mf mh mt : Int → Int} {nc tS tL sP lP mc : Int} {t h u cl sc sr ch : Int} {co ro br wc wr m : Int → Int}
theorem yk_cl2 (k : yk_sky t h u cl sc sr ch co ro br wc wr m) {c2 h2 : Int} (a1 : z24 c2) (b1 : 0 ≤ h2) (b2 : h2 ≤ 65535) {m2 : Int → Int} (e1 : m2 130 = c2) (e2 : m2 133 = h2) (e : ∀ j, j ≠ 130 → j ≠ 133 → m2 j = m j) : yk_sky t h u c2 sc sr h2 co ro br wc wr m2 := by
  obtain ⟨⟨ht, k126⟩, hk2, k129, hk4, hk5, hk6, hk7, ki⟩ := k
  refine ⟨⟨ht, by rw [e _ (by decide) (by decide)]; exact k126⟩, ⟨hk2.1, by rw [e _ (by decide) (by decide)]; exact hk2.2⟩, by rw [e _ (by decide) (by decide)]; exact k129, ⟨a1, e1⟩, ⟨hk5.1, by rw [e _ (by decide) (by decide)]; exact hk5.2⟩, ⟨hk6.1, by rw [e _ (by decide) (by decide)]; exact hk6.2⟩, ⟨⟨b1, b2⟩, e2⟩, fun i i0 i1 => ?_⟩
  rw [e i (by omega) (by omega), e (24 + i) (by omega) (by omega), e (48 + i) (by omega) (by omega), e (72 + i) (by omega) (by omega), e (96 + i) (by omega) (by omega)]
  exact ki i i0 i1
theorem yk_draw_l (R : yl_R L K V nc tS tL sP lP kd fr hf to mc C mk mf mh mt) (m0 : Int → Int) : ∀ (d : Nat) (i s c f : Int) (g S m g2 S2 : Int → Int) (n n2 : Nat), i + d = 24 → 0 ≤ i → d < n → d < n2 → z24 s → 0 ≤ c → c ≤ 65535 → (∀ j, 0 ≤ j → j < 13 → j ≠ 5 → g j = yv_lq h u 0 j) → m 130 = s → m 133 = c → m 128 = h → m 129 = u → (∀ j, j ≠ 130 → j ≠ 133 → m j = m0 j) →
    ∃ s' c' f' g' S' m' g2' S2', zf_Sky_drawClouds_l0 nc kd hf to K V fr n s i c f g S = some (s', c', f', g', S') ∧ zf_M_drawsClouds_l0 mc mk mh mt C mf n2 i m g2 S2 = some (m', g2', S2') ∧ z24 s' ∧ (0 ≤ c' ∧ c' ≤ 65535) ∧ m' 130 = s' ∧ m' 133 = c' ∧ ∀ j, j ≠ 130 → j ≠ 133 → m' j = m0 j := by
  intro d
  induction d with
  | zero =>
    intro i s c f g S m g2 S2 n n2 e i0 hn hn2 hs c1 c2 hg e1 e2 e3 e4 e5
    obtain ⟨n, rfl⟩ : ∃ q, n = q + 1 := ⟨n - 1, by omega⟩
    obtain ⟨n2, rfl⟩ : ∃ q, n2 = q + 1 := ⟨n2 - 1, by omega⟩
    refine ⟨s, c, f, g, S, m, g2, S2, ?_, ?_, hs, ⟨c1, c2⟩, e1, e2, e5⟩
    · show zf_Sky_drawClouds_l0_b nc kd hf to K V fr (zf_Sky_drawClouds_l0 nc kd hf to K V fr n) s i c f g S = _
      unfold zf_Sky_drawClouds_l0_b
      rw [if_neg (by omega)]
    · show zf_M_drawsClouds_l0_b mc mk mh mt C mf (zf_M_drawsClouds_l0 mc mk mh mt C mf n2) i m g2 S2 = _
      unfold zf_M_drawsClouds_l0_b
      rw [if_neg (by omega)]
  | succ d ih =>
    intro i s c f g S m g2 S2 n n2 e i0 hn hn2 hs c1 c2 hg e1 e2 e3 e4 e5
    obtain ⟨n, rfl⟩ : ∃ q, n = q + 1 := ⟨n - 1, by omega⟩
    obtain ⟨n2, rfl⟩ : ∃ q, n2 = q + 1 := ⟨n2 - 1, by omega⟩
    obtain ⟨l1, l2, l3⟩ := ze_lot c1 c2
    obtain ⟨f', S', ea⟩ := yl_amtX (lt := zv_up g 5 i) R (k := 113) (high := 10) (f1 := f) (S := S) (Or.inr (Or.inr rfl)) (by decide)
    obtain ⟨gf, eg, w0, w1, w2⟩ := ze_M_feels (g := g2) (m := zv_up m 133 (yg_lot c))
    obtain ⟨S2', eb⟩ := yl_amtM (lt := zv_up gf 5 i) R (k := 113) (high := 10) (S := S2) (Or.inr (Or.inr rfl)) (by decide)
    have elt : yl_amt L 113 10 (zv_up gf 5 i) = yl_amt L 113 10 (zv_up g 5 i) := by
      refine yl_amt_c R (Or.inr (Or.inr rfl)) fun j j0 j1 => ?_
      by_cases ej : j = 5
      · rw [ej, zv_up_s, zv_up_s]
      · rw [zv_up_n ej, zv_up_n ej, hg j j0 j1 ej]
        unfold yv_lq
        by_cases j00 : j = 0
        · rw [if_pos j00, j00, w0, zv_up_n (by decide)]; exact e3
        · rw [if_neg j00]
          by_cases j11 : j = 1
          · rw [if_pos j11, j11, w1, zv_up_n (by decide)]; exact e4
          · rw [if_neg j11, if_neg ej]; exact w2 j (by omega) j1
    show ∃ s' c' f' g' S' m' g2' S2', zf_Sky_drawClouds_l0_b nc kd hf to K V fr (zf_Sky_drawClouds_l0 nc kd hf to K V fr n) s i c f g S = _ ∧ zf_M_drawsClouds_l0_b mc mk mh mt C mf (zf_M_drawsClouds_l0 mc mk mh mt C mf n2) i m g2 S2 = _ ∧ _
    unfold zf_Sky_drawClouds_l0_b zf_M_drawsClouds_l0_b
    rw [if_pos (show i < 24 by omega), if_pos (show i < 24 by omega), e2, l1, ea, zl_b, eg, zl_b, eb, zl_b, elt, zv_up_s, zi_w_id (x := i + 1) (by omega) (by omega)]
    have hg' : ∀ j, 0 ≤ j → j < 13 → j ≠ 5 → zv_up g 5 i j = yv_lq h u 0 j := fun j j0 j1 j5 => by rw [zv_up_n j5]; exact hg j j0 j1 j5
    by_cases hq : zi_rem (yg_lot c) 10 < yl_amt L 113 10 (zv_up g 5 i)
    · rw [if_pos hq, if_pos hq, zv_up_n (show (130 : Int) ≠ 133 by decide), e1]
      exact ih (i + 1) _ _ f' _ S' _ _ S2' n n2 (by omega) (by omega) (by omega) (by omega) (z24_or hs (z24_shl i0 (by omega))) l2 l3 hg' zv_up_s (by rw [zv_up_n (by decide), zv_up_s]) (by rw [zv_up_n (by decide), zv_up_n (by decide)]; exact e3) (by rw [zv_up_n (by decide), zv_up_n (by decide)]; exact e4) (fun j j1 j2 => by rw [zv_up_n j1, zv_up_n j2]; exact e5 j j1 j2)
    · rw [if_neg hq, if_neg hq]
      exact ih (i + 1) s _ f' _ S' _ _ S2' n n2 (by omega) (by omega) (by omega) (by omega) hs l2 l3 hg' (by rw [zv_up_n (by decide)]; exact e1) zv_up_s (by rw [zv_up_n (by decide)]; exact e3) (by rw [zv_up_n (by decide)]; exact e4) (fun j j1 j2 => by rw [zv_up_n j2]; exact e5 j j1 j2)
theorem yk_drawn (R : yl_R L K V nc tS tL sP lP kd fr hf to mc C mk mf mh mt) (k : yk_sky t h u cl sc sr ch co ro br wc wr m) {f : Int} {g S g2 S2 : Int → Int} :
    ∃ ch' cl' f' g' S' m' g2' S2', zf_Sky_drawClouds h u ch nc f cl g kd hf to K S V fr = some (ch', f', cl', g', S') ∧ zf_M_drawsClouds mc m g2 mk mh mt C S2 mf = some (m', g2', S2') ∧ yk_sky t h u cl' sc sr ch' co ro br wc wr m' ∧ ∀ j, j ≠ 130 → j ≠ 133 → m' j = m j := by
  obtain ⟨-, ⟨⟨h1, h2⟩, k128⟩, k129, -, -, -, ⟨⟨q1, q2⟩, k133⟩, -⟩ := id k
  obtain ⟨g1, eg, hg⟩ := ze_forget (g := g)
  obtain ⟨s', c', f', g', S', m', g2', S2', e1, e2, e3, e4, e5, e6, e7⟩ := yk_draw_l (h := h) (u := u) R m 24 0 0 ch f (zv_up (zv_up g1 0 h) 1 u) S (zv_up m 130 0) g2 S2 zi_fu zi_fu (by decide) (by decide) (by decide) (by decide) z24_0 q1 q2 (fun j j0 j1 j5 => by
    unfold yv_lq
    by_cases e1 : j = 1
    · subst e1; rfl
    by_cases e0 : j = 0
    · subst e0; rfl
    rw [zv_up_n e1, zv_up_n e0, if_neg e0, if_neg e1, if_neg j5]
    exact hg j j0 j1) zv_up_s (by rw [zv_up_n (by decide)]; exact k133) (by rw [zv_up_n (by decide)]; exact k128) (by rw [zv_up_n (by decide)]; exact k129) (fun j j1 _ => zv_up_n j1)
  refine ⟨c', s', f', g', S', m', g2', S2', ?_, ?_, yk_cl2 k e3 e4.1 e4.2 e5 e6 e7, e7⟩
  · unfold zf_Sky_drawClouds zf_Law_setTime
    rw [eg, zl_b, zl_b, e1]
    rfl
  · unfold zf_M_drawsClouds
    rw [e2]
    rfl
end YKC
