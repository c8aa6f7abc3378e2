/-! sold: what stars are worth and how heavy they are; both sides. -/
theorem yl_amt_in {L : zLW} {k high : Int} {lt : Int → Int} (hh : 0 ≤ high) : 0 ≤ yl_amt L k high lt ∧ yl_amt L k high lt ≤ high := by
  have hc : ∀ r : Option Int, 0 ≤ yl_clm high r ∧ yl_clm high r ≤ high := fun r => by
    cases r with
    | none => exact ⟨Int.le_refl 0, hh⟩
    | some v =>
      show 0 ≤ (if v < 0 then 0 else if high < v then high else v) ∧ (if v < 0 then 0 else if high < v then high else v) ≤ high
      split
      · omega
      · split <;> omega
  have hF : ∀ (n : Nat) (q : Int), 0 ≤ yl_amtF L k high lt n q ∧ yl_amtF L k high lt n q ≤ high := fun n => by
    induction n with
    | zero => intro q; exact ⟨Int.le_refl 0, hh⟩
    | succ n ih =>
      intro q
      show 0 ≤ (if L.2.1 q = k ∧ L.2.2.1 q lt = some 1 then yl_clm high (L.2.2.2 q lt) else yl_amtF L k high lt n (q + 1)) ∧ (if L.2.1 q = k ∧ L.2.2.1 q lt = some 1 then yl_clm high (L.2.2.2 q lt) else yl_amtF L k high lt n (q + 1)) ≤ high
      split
      · exact hc _
      · exact ih (q + 1)
  exact hF _ 0
def ysw (L : zLW) (t h u : Int) (co ro br : Int → Int) (k high : Int) (j : Int) : Int := if zb t j.toNat = true then yl_amt L k high (yv_lt h u j (br j) (ro j) (yv_st h co j) 0 0 0) else 0
section YSX2
variable {L : zLW} {K V kd fr hf to C mk mf mh mt : Int → Int} {nc tS tL sP lP mc : Int} {t h u cl sc sr ch : Int} {co ro br wc wr m : Int → Int}
theorem ysw_R : ysR (ysw L t h u co ro br 119 999) (ysw L t h u co ro br 103 99) := fun i i0 i1 => by
  unfold ysw
  constructor
  · split
    · exact yl_amt_in (by decide)
    · decide
  · split
    · exact yl_amt_in (by decide)
    · decide
theorem ysx_weigh_l (R : yl_R L K V nc tS tL sP lP kd fr hf to mc C mk mf mh mt) (k : yk_sky t h u cl sc sr ch co ro br wc wr m) : ∀ (d : Nat) (i f : Int) (g A B S : Int → Int) (n : Nat), i + d = 24 → 0 ≤ i → d < n → yv_ba h u 0 0 g → g 12 = 0 → (∀ j, 0 ≤ j → j < i → A j = ysw L t h u co ro br 119 999 j ∧ B j = ysw L t h u co ro br 103 99 j) →
    ∃ f' g' A' B' S', zf_Chooser_weighStars_l0 h t nc br ro co kd hf to K V fr n i f g A B S = some (f', g', A', B', S') ∧ ∀ j, 0 ≤ j → j < 24 → A' j = ysw L t h u co ro br 119 999 j ∧ B' j = ysw L t h u co ro br 103 99 j := by
  obtain ⟨⟨ht, k126⟩, ⟨⟨h1, h2⟩, k128⟩, k129, -, -, -, -, ki⟩ := id k
  have tin : 0 ≤ t ∧ t ≤ 2147483647 := ⟨ht.1, by have := ht.2; omega⟩
  intro d
  induction d with
  | zero =>
    intro i f g A B S n e i0 hn hg h12 hA
    obtain ⟨n, rfl⟩ : ∃ q, n = q + 1 := ⟨n - 1, by omega⟩
    refine ⟨f, g, A, B, S, ?_, fun j j0 j1 => hA j j0 (by omega)⟩
    show zf_Chooser_weighStars_l0_b h t nc br ro co kd hf to K V fr (zf_Chooser_weighStars_l0 h t nc br ro co kd hf to K V fr n) i f g A B S = _
    unfold zf_Chooser_weighStars_l0_b
    rw [if_neg (by omega)]
  | succ d ih =>
    intro i f g A B S n e i0 hn hg h12 hA
    obtain ⟨n, rfl⟩ : ∃ q, n = q + 1 := ⟨n - 1, by omega⟩
    obtain ⟨⟨⟨c1, c2⟩, ⟨r1, r2⟩, -⟩, -⟩ := ki i i0 (by omega)
    show ∃ f' g' A' B' S', zf_Chooser_weighStars_l0_b h t nc br ro co kd hf to K V fr (zf_Chooser_weighStars_l0 h t nc br ro co kd hf to K V fr n) i f g A B S = some (f', g', A', B', S') ∧ _
    unfold zf_Chooser_weighStars_l0_b
    rw [if_pos (by omega), zl_ci i0 (by omega), ze_Sky_hasStar tin.1 tin.2, zl_b, zi_w_id (x := i + 1) (by omega) (by omega)]
    have up : ∀ v x y, v = ysw L t h u co ro br 119 999 i → x = ysw L t h u co ro br 103 99 i → ∀ j, 0 ≤ j → j < i + 1 → zv_up (zv_up A i y) i v j = ysw L t h u co ro br 119 999 j ∧ zv_up (zv_up B i y) i x j = ysw L t h u co ro br 103 99 j := fun v x y e1 e2 j j0 j1 => by
      by_cases z : j = i
      · subst z; rw [zv_up_s, zv_up_s]; exact ⟨e1, e2⟩
      · rw [zv_up_n z, zv_up_n z, zv_up_n z, zv_up_n z]; exact hA j j0 (by omega)
    by_cases q : zs_has 24 t i = 0
    · rw [if_pos q]
      have hz : ¬ zb t i.toNat = true := fun hh => by
        rw [zs_has1 tin.1 tin.2 i0 (by omega) hh] at q
        exact absurd q (by decide)
      refine ih (i + 1) _ _ _ _ _ n (by omega) (by omega) (by omega) hg h12 fun j j0 j1 => ?_
      by_cases z : j = i
      · subst z
        rw [zv_up_s, zv_up_s]
        unfold ysw
        rw [if_neg hz, if_neg hz]; exact ⟨rfl, rfl⟩
      · rw [zv_up_n z, zv_up_n z]; exact hA j j0 (by omega)
    · have hz : zb t i.toNat = true := by
        by_cases hh : zb t i.toNat = true
        · exact hh
        · exact absurd (zs_has0 tin.1 tin.2 hh) q
      rw [if_neg q, ze_setStar i0 (by omega) c1 c2 h1 h2, zl_b]
      have hg2 : yv_ba h u 0 0 (zv_up (zv_up (zv_up (zv_up g 2 i) 3 (br i)) 4 (ro i)) 5 (yv_st h co i)) := hg
      have hl := yv_lt_of (i := i) (b := br i) (r := ro i) (c := yv_st h co i) (d := 0) hg2 rfl rfl rfl rfl h12
      obtain ⟨a1, S1, e1⟩ := yl_amtX (lt := zv_up (zv_up (zv_up (zv_up g 2 i) 3 (br i)) 4 (ro i)) 5 (yv_st h co i)) (k := 119) (high := 999) (f1 := f) (S := S) R (.inl rfl) (by decide)
      obtain ⟨a2, S2, e2⟩ := yl_amtX (lt := zv_up (zv_up (zv_up (zv_up g 2 i) 3 (br i)) 4 (ro i)) 5 (yv_st h co i)) (k := 103) (high := 99) (f1 := a1) (S := S1) R (.inr (.inl rfl)) (by decide)
      rw [e1, zl_b, e2, zl_b]
      refine ih (i + 1) _ _ _ _ _ n (by omega) (by omega) (by omega) hg2 h12 (up _ _ _ ?_ ?_)
      · unfold ysw
        rw [if_pos hz]
        exact yl_amt_c R (.inl rfl) hl
      · unfold ysw
        rw [if_pos hz]
        exact yl_amt_c R (.inr (.inl rfl)) hl
theorem ysm_weigh_l (R : yl_R L K V nc tS tL sP lP kd fr hf to mc C mk mf mh mt) (k : yk_sky t h u cl sc sr ch co ro br wc wr m) : ∀ (d : Nat) (i : Int) (g A B S : Int → Int) (n : Nat), i + d = 24 → 0 ≤ i → d < n → (∀ j, 0 ≤ j → j < i → A j = ysw L t h u co ro br 119 999 j ∧ B j = ysw L t h u co ro br 103 99 j) →
    ∃ g' A' B' S', zf_M_sold_l0 mc m mk mh mt C mf n i g A B S = some (g', A', B', S') ∧ ∀ j, 0 ≤ j → j < 24 → A' j = ysw L t h u co ro br 119 999 j ∧ B' j = ysw L t h u co ro br 103 99 j := by
  obtain ⟨⟨ht, k126⟩, ⟨⟨h1, h2⟩, k128⟩, k129, -, -, -, -, ki⟩ := id k
  have tin : 0 ≤ t ∧ t ≤ 2147483647 := ⟨ht.1, by have := ht.2; omega⟩
  intro d
  induction d with
  | zero =>
    intro i g A B S n e i0 hn hA
    obtain ⟨n, rfl⟩ : ∃ q, n = q + 1 := ⟨n - 1, by omega⟩
    refine ⟨g, A, B, S, ?_, fun j j0 j1 => hA j j0 (by omega)⟩
    show zf_M_sold_l0_b mc m mk mh mt C mf (zf_M_sold_l0 mc m mk mh mt C mf n) i g A B S = _
    unfold zf_M_sold_l0_b
    rw [if_neg (by omega)]
  | succ d ih =>
    intro i g A B S n e i0 hn hA
    obtain ⟨n, rfl⟩ : ∃ q, n = q + 1 := ⟨n - 1, by omega⟩
    obtain ⟨-, ⟨⟨c1, c2⟩, -⟩, h3⟩ := ki i i0 (by omega)
    obtain ⟨g2, e0, b0, b1, b2, b3, b4, b5, b6⟩ := ze_M_feelsStar (g := g) (m := m) i0 (by omega) c1 c2 (by rw [k128]; exact h1) (by rw [k128]; exact h2)
    show ∃ g' A' B' S', zf_M_sold_l0_b mc m mk mh mt C mf (zf_M_sold_l0 mc m mk mh mt C mf n) i g A B S = some (g', A', B', S') ∧ _
    unfold zf_M_sold_l0_b
    rw [if_pos (by omega), e0, zl_b, ze_M_isTold (by rw [k126]; exact tin.1) (by rw [k126]; exact tin.2), k126, zl_b, zi_w_id (x := i + 1) (by omega) (by omega)]
    have up : ∀ v x, v = ysw L t h u co ro br 119 999 i → x = ysw L t h u co ro br 103 99 i → ∀ j, 0 ≤ j → j < i + 1 → zv_up A i v j = ysw L t h u co ro br 119 999 j ∧ zv_up B i x j = ysw L t h u co ro br 103 99 j := fun v x e1 e2 j j0 j1 => by
      by_cases z : j = i
      · subst z; rw [zv_up_s, zv_up_s]; exact ⟨e1, e2⟩
      · rw [zv_up_n z, zv_up_n z]; exact hA j j0 (by omega)
    by_cases q : zs_has 24 t i = 0
    · have hz : ¬ zb t i.toNat = true := fun hh => by
        rw [zs_has1 tin.1 tin.2 i0 (by omega) hh] at q
        exact absurd q (by decide)
      rw [if_pos q, zl_ci i0 (by omega), zl_b, if_pos q]
      refine ih (i + 1) _ _ _ _ n (by omega) (by omega) (by omega) (up _ _ ?_ ?_)
      · unfold ysw; rw [if_neg hz]
      · unfold ysw; rw [if_neg hz]
    · have hz : zb t i.toNat = true := by
        by_cases hh : zb t i.toNat = true
        · exact hh
        · exact absurd (zs_has0 tin.1 tin.2 hh) q
      obtain ⟨d0, d1, d2, -, -⟩ := h3 hz
      have hl : ∀ j, 0 ≤ j → j < 13 → g2 j = yv_lt h u i (br i) (ro i) (yv_st h co i) 0 0 0 j := yv_lt_of ⟨by rw [b0, k128], by rw [b1, k129], b6 6 (by decide) (by decide), b6 7 (by decide) (by decide), b6 8 (by decide) (by decide), b6 9 (by decide) (by decide), b6 10 (by decide) (by decide), b6 11 (by decide) (by decide)⟩ b2 (by rw [b3, d2]) (by rw [b4, d1]) (by rw [b5, d0, k128]; rfl) (b6 12 (by decide) (by decide))
      obtain ⟨S1, e1⟩ := yl_amtM (lt := g2) (k := 119) (high := 999) (S := S) R (.inl rfl) (by decide)
      obtain ⟨S2, e2⟩ := yl_amtM (lt := g2) (k := 103) (high := 99) (S := S1) R (.inr (.inl rfl)) (by decide)
      rw [if_neg q, e1, zl_b, zl_ci i0 (by omega), zl_b, if_neg q, e2, zl_b]
      refine ih (i + 1) _ _ _ _ n (by omega) (by omega) (by omega) (up _ _ ?_ ?_)
      · unfold ysw
        rw [if_pos hz]
        exact yl_amt_c R (.inl rfl) hl
      · unfold ysw
        rw [if_pos hz]
        exact yl_amt_c R (.inr (.inl rfl)) hl
theorem yo_sold (R : yl_R L K V nc tS tL sP lP kd fr hf to mc C mk mf mh mt) (k : yk_sky t h u cl sc sr ch co ro br wc wr m) {a b f5 : Int} {g0 g1 g2 g10 g13 g14 q0 q2 q3 q8 q10 : Int → Int} :
    ∃ r f5' g0' g1' g2' g10' g13' g14' q0' q2' q3' q8' q10', zf_X_sold a b h u t nc f5 g0 g1 g2 br ro co kd hf to K g10 V fr g13 g14 = some (r, f5', g0', g1', g2', g10', g13', g14') ∧ zf_M_sold a b mc q0 m q2 q3 mk mh mt C q8 mf q10 = some (r, q0', q2', q3', q8', q10') := by
  obtain ⟨⟨ht, k126⟩, -⟩ := id k
  unfold zf_X_sold zf_M_sold
  rw [ze_X_isWithin, ze_M_in, zl_b, zl_b]
  by_cases x1 : zs_in a 0 999 = 0
  · rw [if_pos x1, if_pos x1]
    exact ⟨_, _, _, _, _, _, _, _, _, _, _, _, _, rfl, rfl⟩
  rw [if_neg x1, if_neg x1, ze_X_isWithin, ze_M_in, zl_b, zl_b]
  by_cases x2 : zs_in b 0 2 = 0
  · rw [if_pos x2, if_pos x2]
    exact ⟨_, _, _, _, _, _, _, _, _, _, _, _, _, rfl, rfl⟩
  rw [if_neg x2, if_neg x2]
  obtain ⟨a0, a1⟩ := zs_in_ne x1
  obtain ⟨b0, b1⟩ := zs_in_ne x2
  obtain ⟨gA, e0, hgA⟩ := ze_forget (g := g0)
  obtain ⟨f', g', A, B, S', e1, hX⟩ := ysx_weigh_l R k 24 0 f5 (zv_up (zv_up gA 0 h) 1 u) g1 g2 g10 zi_fu (by decide) (by decide) (by decide) ⟨rfl, rfl, hgA 6 (by decide) (by decide), hgA 7 (by decide) (by decide), hgA 8 (by decide) (by decide), hgA 9 (by decide) (by decide), hgA 10 (by decide) (by decide), hgA 11 (by decide) (by decide)⟩ (hgA 12 (by decide) (by decide)) (fun j j0 j1 => by omega)
  obtain ⟨p', G, H, S2, e2, hM⟩ := ysm_weigh_l R k 24 0 q0 q2 q3 q8 zi_fu (by decide) (by decide) (by decide) (fun j j0 j1 => by omega)
  have hR := ysw_R (L := L) (t := t) (h := h) (u := u) (co := co) (ro := ro) (br := br)
  have hu : ∀ i : Nat, i < 24 → ¬ zb t i = true → ysw L t h u co ro br 119 999 i = 0 := fun i hi hz => by
    unfold ysw
    rw [Int.toNat_natCast, if_neg hz]
  obtain ⟨BW, BB, e3⟩ := ys_best hR a0 (by omega : a ≤ 999) hu (g0 := g13) (g1 := g14) (fun i i0 i1 => (hX i i0 i1).2) (fun i i0 i1 => (hX i i0 i1).1)
  obtain ⟨Z, e4, hZ⟩ := ysm_zero (most := a) (by omega) 1000 0 q10 zi_fu (by omega) (by decide) (by omega) (by decide) (fun j j0 j1 => by omega)
  obtain ⟨Tb, e5, hT⟩ := ysm_tab hR a0 (by omega : a ≤ 999) ht k126 hu (fun i i0 i1 => (hM i i0 i1).1) (fun i i0 i1 => (hM i i0 i1).2) 24 0 Z zi_fu rfl (by decide) (fun r j r1 j0 j1 => by
    obtain rfl : r = 0 := by omega
    rw [show 1000 * ((0 : Nat) : Int) + j = j by omega]; exact hZ j j0 j1)
  have e6 := ysm_back hR (by omega : a ≤ 999) hT (fun i i0 i1 => (hM i i0 i1).2) 24 a 0 zi_fu (Nat.le_refl _) a0 (Int.le_refl _) (by decide) z24_0
  have hBz := (ysB_in (w := ysw L t h u co ro br 119 999) (hv := ysw L t h u co ro br 103 99) 24 a (Nat.le_refl _)).1
  have hor : zi_or 0 (ysB (ysw L t h u co ro br 119 999) (ysw L t h u co ro br 103 99) 24 a) = ysB (ysw L t h u co ro br 119 999) (ysw L t h u co ro br 103 99) 24 a := z24_ext (z24_or z24_0 hBz) hBz fun j _ => by rw [zb_or, zb_0, Bool.false_or]
  rw [hor] at e6
  unfold zf_Chooser_weighStars zf_Law_setTime
  rw [e0, zl_b, zl_b, e1, zl_b, zl_b]
  dsimp only
  rw [e3, zl_b, e2, zl_b]
  dsimp only
  rw [e4, zl_b, show zf_M_sold_l2 a m G H zi_fu 0 Z = _ from e5, zl_b, show zf_M_sold_l4 H Tb zi_fu a 0 23 = _ from e6, zl_b]
  dsimp only
  by_cases x3 : b = 0
  · rw [if_pos x3, if_pos x3, (ysx_sum hBz (fun i i0 i1 => (hX i i0 i1).1) (fun i i0 i1 => (hR i i0 i1).1)).1, zl_b, ysS_W 24 a (Nat.le_refl _), zi_w_id (x := 24000 + a) (by omega) (by omega), zl_ci (by omega) (by omega), show 24000 + a = 1000 * ((24 : Nat) : Int) + a by omega, hT 24 a (Nat.le_refl _) a0 (Int.le_refl _)]
    exact ⟨_, _, _, _, _, _, _, _, _, _, _, _, _, rfl, rfl⟩
  rw [if_neg x3, if_neg x3]
  by_cases x4 : b = 1
  · rw [if_pos x4, if_pos x4]
    exact ⟨_, _, _, _, _, _, _, _, _, _, _, _, _, rfl, rfl⟩
  · rw [if_neg x4, if_neg x4]
    have hv := ysV_in hR 24 a (Nat.le_refl _) a0
    rw [(ysx_sum hBz (fun i i0 i1 => (hX i i0 i1).2) (fun i i0 i1 => ⟨(hR i i0 i1).2.1, by have := (hR i i0 i1).2.2; omega⟩)).2, zl_b, ysS_V 24 a (Nat.le_refl _)]
    rw [show a - (a - ysV (ysw L t h u co ro br 119 999) (ysw L t h u co ro br 103 99) 24 a) = ysV (ysw L t h u co ro br 119 999) (ysw L t h u co ro br 103 99) 24 a by omega, zi_w_id (by omega) (by omega)]
    exact ⟨_, _, _, _, _, _, _, _, _, _, _, _, _, rfl, rfl⟩
end YSX2
