/-! sold on the reference's side: the table, and the way back. -/
section YSP2
variable {w hv : Int → Int}
theorem ysW_up {i : Nat} {c : Int} : ysW w hv (i + 1) c = (if hv i ≤ c ∧ ysW w hv i c < ysW w hv i (c - hv i) + w i then ysW w hv i (c - hv i) + w i else ysW w hv i c) := rfl
theorem ysm_zero {most : Int} (m2 : most ≤ 999) : ∀ (d : Nat) (c : Int) (G : Int → Int) (n : Nat), most + 1 - c ≤ d → 0 ≤ c → c ≤ most + 1 → d < n → (∀ j, 0 ≤ j → j < c → G j = 0) → ∃ G', zf_M_sold_l1 most n c G = some G' ∧ ∀ j, 0 ≤ j → j ≤ most → G' j = 0 := by
  intro d
  induction d with
  | zero =>
    intro c G n e c0 c1 hn h
    obtain ⟨n, rfl⟩ : ∃ q, n = q + 1 := ⟨n - 1, by omega⟩
    refine ⟨G, ?_, fun j j0 j1 => h j j0 (by omega)⟩
    show zf_M_sold_l1_b most (zf_M_sold_l1 most n) c G = _
    unfold zf_M_sold_l1_b
    rw [if_pos (by omega)]
  | succ d ih =>
    intro c G n e c0 c1 hn h
    obtain ⟨n, rfl⟩ : ∃ q, n = q + 1 := ⟨n - 1, by omega⟩
    show ∃ G', zf_M_sold_l1_b most (zf_M_sold_l1 most n) c G = some G' ∧ _
    unfold zf_M_sold_l1_b
    by_cases q : most < c
    · rw [if_pos q]
      exact ⟨G, rfl, fun j j0 j1 => h j j0 (by omega)⟩
    · rw [if_neg q, zl_ci c0 (by omega), zi_w_id (x := c + 1) (by omega) (by omega)]
      refine ih (c + 1) _ n (by omega) (by omega) (by omega) (by omega) fun j j0 j1 => ?_
      by_cases z : j = c
      · subst z; rw [zv_up_s]
      · rw [zv_up_n z]; exact h j j0 (by omega)
theorem ysm_row (h : ysR w hv) {most t : Int} {m gw gh : Int → Int} (m1 : 0 ≤ most) (m2 : most ≤ 999) (ht : z24 t) (k126 : m 126 = t) (hu : ∀ i : Nat, i < 24 → ¬ zb t i = true → w i = 0) (e1 : ∀ i, 0 ≤ i → i < 24 → gw i = w i) (e2 : ∀ i, 0 ≤ i → i < 24 → gh i = hv i) {i : Nat} (hi : i < 24) : ∀ (d : Nat) (c : Int) (G : Int → Int) (n : Nat), most + 1 - c ≤ d → 0 ≤ c → c ≤ most + 1 → d < n →
    (∀ (r : Nat) j, r ≤ i → 0 ≤ j → j ≤ most → G (1000 * (r : Int) + j) = ysW w hv r j) → (∀ j, 0 ≤ j → j < c → G (1000 * ((i : Int) + 1) + j) = ysW w hv (i + 1) j) →
    ∃ G', zf_M_sold_l3 most i m gw gh n c G = some G' ∧ ∀ (r : Nat) j, r ≤ i + 1 → 0 ≤ j → j ≤ most → G' (1000 * (r : Int) + j) = ysW w hv r j := by
  have tin : 0 ≤ t ∧ t ≤ 2147483647 := ⟨ht.1, by have := ht.2; omega⟩
  obtain ⟨⟨w1, w2⟩, h1, h2⟩ := h i (by omega) (by omega)
  have fin : ∀ G : Int → Int, (∀ (r : Nat) j, r ≤ i → 0 ≤ j → j ≤ most → G (1000 * (r : Int) + j) = ysW w hv r j) → (∀ j, 0 ≤ j → j < most + 1 → G (1000 * ((i : Int) + 1) + j) = ysW w hv (i + 1) j) → ∀ (r : Nat) j, r ≤ i + 1 → 0 ≤ j → j ≤ most → G (1000 * (r : Int) + j) = ysW w hv r j := fun G a b r j r1 j0 j1 => by
    by_cases z : r = i + 1
    · subst z
      rw [show 1000 * ((i + 1 : Nat) : Int) + j = 1000 * ((i : Int) + 1) + j by omega]
      exact b j j0 (by omega)
    · exact a r j (by omega) j0 j1
  intro d
  induction d with
  | zero =>
    intro c G n e c0 c1 hn hA hB
    obtain ⟨n, rfl⟩ : ∃ q, n = q + 1 := ⟨n - 1, by omega⟩
    refine ⟨G, ?_, fin G hA fun j j0 j1 => hB j j0 (by omega)⟩
    show zf_M_sold_l3_b most i m gw gh (zf_M_sold_l3 most i m gw gh n) c G = _
    unfold zf_M_sold_l3_b
    rw [if_pos (by omega)]
  | succ d ih =>
    intro c G n e c0 c1 hn hA hB
    obtain ⟨n, rfl⟩ : ∃ q, n = q + 1 := ⟨n - 1, by omega⟩
    show ∃ G', zf_M_sold_l3_b most i m gw gh (zf_M_sold_l3 most i m gw gh n) c G = some G' ∧ _
    unfold zf_M_sold_l3_b
    by_cases q : most < c
    · rw [if_pos q]
      exact ⟨G, rfl, fin G hA fun j j0 j1 => hB j j0 (by omega)⟩
    rw [if_neg q, zi_w_id (x := 1000 * (i : Int)) (by omega) (by omega), zi_w_id (x := 1000 * (i : Int) + c) (by omega) (by omega), zi_w_id (x := (i : Int) + 1) (by omega) (by omega), zi_w_id (x := 1000 * ((i : Int) + 1)) (by omega) (by omega), zi_w_id (x := 1000 * ((i : Int) + 1) + c) (by omega) (by omega), zi_w_id (x := c + 1) (by omega) (by omega), zl_ci (a := 1000 * (i : Int) + c) (by omega) (by omega), ze_M_isTold (by rw [k126]; exact tin.1) (by rw [k126]; exact tin.2), k126, zl_b, zl_ci (a := (i : Int)) (by omega) (by omega), e2 i (by omega) (by omega), hA i c (Nat.le_refl _) c0 (by omega)]
    have go : ∀ v, v = ysW w hv (i + 1) c → ∃ G', zf_M_sold_l3 most i m gw gh n (c + 1) (zv_up G (1000 * ((i : Int) + 1) + c) v) = some G' ∧ ∀ (r : Nat) j, r ≤ i + 1 → 0 ≤ j → j ≤ most → G' (1000 * (r : Int) + j) = ysW w hv r j := fun v hv1 => by
      refine ih (c + 1) _ n (by omega) (by omega) (by omega) (by omega) (fun r j r1 j0 j1 => ?_) (fun j j0 j1 => ?_)
      · rw [zv_up_n (by omega)]; exact hA r j r1 j0 j1
      · by_cases z : j = c
        · subst z; rw [zv_up_s]; exact hv1
        · rw [zv_up_n (by omega)]; exact hB j j0 (by omega)
    by_cases z : zs_has 24 t i = 0
    · rw [if_pos z, zl_ci (a := 1000 * ((i : Int) + 1) + c) (by omega) (by omega)]
      refine go _ ?_
      have hz : ¬ zb t i = true := fun hh => by
        rw [zs_has1 tin.1 tin.2 (by omega) (by omega) (by rw [Int.toNat_natCast]; exact hh)] at z
        exact absurd z (by decide)
      exact (ysW_st h hi (hu i hi hz) c).1.symm
    · rw [if_neg z]
      by_cases x : c < hv i
      · rw [if_pos x, zl_ci (a := 1000 * ((i : Int) + 1) + c) (by omega) (by omega)]
        refine go _ ?_
        rw [ysW_up, if_neg (fun k => by omega)]
      · have b := hA i (c - hv i) (Nat.le_refl _) (by omega) (by omega)
        have k1 := ysW_in h i (c - hv i) (by omega)
        rw [if_neg x, zi_w_id (x := 1000 * (i : Int) + c - hv i) (by omega) (by omega), zl_ci (by omega) (by omega), show 1000 * (i : Int) + c - hv i = 1000 * (i : Int) + (c - hv i) by omega, b, e1 i (by omega) (by omega), zi_w_id (x := w i + ysW w hv i (c - hv i)) (by omega) (by omega), ze_mm, zl_b, zl_ci (a := 1000 * ((i : Int) + 1) + c) (by omega) (by omega)]
        refine go _ ?_
        rw [ysW_up]
        split <;> split <;> omega
theorem ysm_tab (h : ysR w hv) {most t : Int} {m gw gh : Int → Int} (m1 : 0 ≤ most) (m2 : most ≤ 999) (ht : z24 t) (k126 : m 126 = t) (hu : ∀ i : Nat, i < 24 → ¬ zb t i = true → w i = 0) (e1 : ∀ i, 0 ≤ i → i < 24 → gw i = w i) (e2 : ∀ i, 0 ≤ i → i < 24 → gh i = hv i) : ∀ (d i : Nat) (G : Int → Int) (n : Nat), i + d = 24 → d < n →
    (∀ (r : Nat) j, r ≤ i → 0 ≤ j → j ≤ most → G (1000 * (r : Int) + j) = ysW w hv r j) →
    ∃ G', zf_M_sold_l2 most m gw gh n i G = some G' ∧ ∀ (r : Nat) j, r ≤ 24 → 0 ≤ j → j ≤ most → G' (1000 * (r : Int) + j) = ysW w hv r j := by
  intro d
  induction d with
  | zero =>
    intro i G n e hn hA
    obtain ⟨n, rfl⟩ : ∃ q, n = q + 1 := ⟨n - 1, by omega⟩
    obtain rfl : i = 24 := by omega
    refine ⟨G, ?_, hA⟩
    show zf_M_sold_l2_b most m gw gh (zf_M_sold_l2 most m gw gh n) ((24 : Nat) : Int) G = _
    unfold zf_M_sold_l2_b
    rw [if_neg (by decide)]
  | succ d ih =>
    intro i G n e hn hA
    obtain ⟨n, rfl⟩ : ∃ q, n = q + 1 := ⟨n - 1, by omega⟩
    show ∃ G', zf_M_sold_l2_b most m gw gh (zf_M_sold_l2 most m gw gh n) i G = some G' ∧ _
    unfold zf_M_sold_l2_b
    rw [if_pos (by omega), zi_w_id (x := (i : Int) + 1) (by omega) (by omega), show ((i : Int) + 1) = ((i + 1 : Nat) : Int) by omega]
    obtain ⟨G1, e3, h3⟩ := ysm_row h m1 m2 ht k126 hu e1 e2 (by omega : i < 24) 1000 0 G zi_fu (by omega) (by omega) (by omega) (by decide) hA (fun j j0 j1 => by omega)
    rw [e3, zl_b]
    exact ih (i + 1) G1 n (by omega) (by omega) h3
theorem zi_or_as {a b c : Int} : zi_or (zi_or a b) c = zi_or a (zi_or b c) := by
  unfold zi_or
  refine zi_ev_zb fun j _ => ?_
  show zb (zi_or (zi_or a b) c) j = zb (zi_or a (zi_or b c)) j
  rw [zb_or, zb_or, zb_or, zb_or, Bool.or_assoc]
theorem zi_or_cm {a b : Int} : zi_or a b = zi_or b a := by
  unfold zi_or
  refine zi_ev_zb fun j _ => ?_
  show zb (zi_or a b) j = zb (zi_or b a) j
  rw [zb_or, zb_or, Bool.or_comm]
theorem ysm_back (h : ysR w hv) {most : Int} {G gh : Int → Int} (m2 : most ≤ 999) (hG : ∀ (r : Nat) j, r ≤ 24 → 0 ≤ j → j ≤ most → G (1000 * (r : Int) + j) = ysW w hv r j) (e2 : ∀ i, 0 ≤ i → i < 24 → gh i = hv i) : ∀ (i : Nat) (l s : Int) (n : Nat), i ≤ 24 → 0 ≤ l → l ≤ most → i < n → z24 s →
    zf_M_sold_l4 gh G n l s ((i : Int) - 1) = some (l - ysV w hv i l, zi_or s (ysB w hv i l)) := by
  intro i
  induction i with
  | zero =>
    intro l s n hi l0 l1 hn hs
    obtain ⟨n, rfl⟩ : ∃ q, n = q + 1 := ⟨n - 1, by omega⟩
    show zf_M_sold_l4_b gh G (zf_M_sold_l4 gh G n) l s (((0 : Nat) : Int) - 1) = some (l - 0, zi_or s 0)
    unfold zf_M_sold_l4_b
    rw [if_pos (by decide), show zi_or s 0 = s from z24_ext (z24_or hs z24_0) hs fun j _ => by rw [zb_or, zb_0, Bool.or_false], Int.sub_zero]
  | succ i ih =>
    intro l s n hi l0 l1 hn hs
    obtain ⟨n, rfl⟩ : ∃ q, n = q + 1 := ⟨n - 1, by omega⟩
    obtain ⟨⟨w1, w2⟩, h1, h2⟩ := h i (by omega) (by omega)
    show zf_M_sold_l4_b gh G (zf_M_sold_l4 gh G n) l s (((i + 1 : Nat) : Int) - 1) = some (l - (if hv i ≤ l ∧ ysW w hv i l < ysW w hv i (l - hv i) + w i then ysV w hv i (l - hv i) + hv i else ysV w hv i l), zi_or s (if hv i ≤ l ∧ ysW w hv i l < ysW w hv i (l - hv i) + w i then zi_or (ysB w hv i (l - hv i)) (zi_shl 1 i) else ysB w hv i l))
    unfold zf_M_sold_l4_b
    rw [show (((i + 1 : Nat) : Int) - 1) = (i : Int) by omega, if_neg (by omega), zi_w_id (x := 1000 * (i : Int)) (by omega) (by omega), zi_w_id (x := 1000 * (i : Int) + l) (by omega) (by omega), zi_w_id (x := (i : Int) + 1) (by omega) (by omega), zi_w_id (x := 1000 * ((i : Int) + 1)) (by omega) (by omega), zi_w_id (x := 1000 * ((i : Int) + 1) + l) (by omega) (by omega), zi_w_id (x := (i : Int) + -1) (by omega) (by omega), zl_ci (a := 1000 * (i : Int) + l) (by omega) (by omega), zl_ci (a := 1000 * ((i : Int) + 1) + l) (by omega) (by omega), zl_ci (a := (i : Int)) (by omega) (by omega), e2 i (by omega) (by omega), hG i l (by omega) l0 l1, show 1000 * ((i : Int) + 1) + l = 1000 * ((i + 1 : Nat) : Int) + l by omega, hG (i + 1) l hi l0 l1, ysW_up]
    by_cases q : hv i ≤ l ∧ ysW w hv i l < ysW w hv i (l - hv i) + w i
    · rw [if_pos q, if_pos q, if_pos q, if_neg (by omega), zi_w_id (x := l - hv i) (by omega) (by omega), show (i : Int) + -1 = (i : Int) - 1 by omega, ih (l - hv i) _ n (by omega) (by omega) (by omega) (by omega) (z24_or hs (z24_shl (by omega) (by omega))), zi_or_as, zi_or_cm (a := zi_shl 1 (i : Int)), show l - hv i - ysV w hv i (l - hv i) = l - (ysV w hv i (l - hv i) + hv i) by omega]
    · rw [if_neg q, if_neg q, if_neg q, if_pos rfl, show (i : Int) + -1 = (i : Int) - 1 by omega, ih l s n (by omega) l0 l1 (by omega) hs]
theorem ysx_sum_l {f g : Int → Int} {b : Int} (hb : z24 b) (e : ∀ i, 0 ≤ i → i < 24 → g i = f i) (h : ∀ i, 0 ≤ i → i < 24 → 0 ≤ f i ∧ f i ≤ 999) : ∀ (d i : Nat) (s : Int) (n : Nat), i + d = 24 → d < n → s = ysS f b i → (0 ≤ s ∧ s ≤ 999 * i) →
    zf_Chooser_worthOf_l0 b g n s i = some (ysS f b 24) ∧ zf_Chooser_weightOf_l0 b g n s i = some (ysS f b 24) := by
  intro d
  induction d with
  | zero =>
    intro i s n e0 hn hs hr
    obtain ⟨n, rfl⟩ : ∃ q, n = q + 1 := ⟨n - 1, by omega⟩
    obtain rfl : i = 24 := by omega
    show zf_Chooser_worthOf_l0_b b g (zf_Chooser_worthOf_l0 b g n) s ((24 : Nat) : Int) = _ ∧ zf_Chooser_weightOf_l0_b b g (zf_Chooser_weightOf_l0 b g n) s ((24 : Nat) : Int) = _
    unfold zf_Chooser_worthOf_l0_b zf_Chooser_weightOf_l0_b
    rw [if_neg (by decide), if_neg (by decide), hs]
    exact ⟨rfl, rfl⟩
  | succ d ih =>
    intro i s n e0 hn hs hr
    obtain ⟨n, rfl⟩ : ∃ q, n = q + 1 := ⟨n - 1, by omega⟩
    obtain ⟨f1, f2⟩ := h i (by omega) (by omega)
    show zf_Chooser_worthOf_l0_b b g (zf_Chooser_worthOf_l0 b g n) s i = _ ∧ zf_Chooser_weightOf_l0_b b g (zf_Chooser_weightOf_l0 b g n) s i = _
    unfold zf_Chooser_worthOf_l0_b zf_Chooser_weightOf_l0_b
    rw [if_pos (by omega), if_pos (by omega), zl_ci (by omega) (by omega), zl_ci (by omega) (by omega), e i (by omega) (by omega), zb_bit (by omega) (by omega), Int.toNat_natCast, zi_w_id (x := (i : Int) + 1) (by omega) (by omega), show ((i : Int) + 1) = ((i + 1 : Nat) : Int) by omega]
    have st : ∀ v, v = (if zb b i = true then f i else 0) → (zi_w ((if zb b i = true then (1 : Int) else 0) * f i) = v) := fun v hv => by
      subst hv
      by_cases q : zb b i = true
      · rw [if_pos q, if_pos q, Int.one_mul, zi_w_id (by omega) (by omega)]
      · rw [if_neg q, if_neg q, Int.zero_mul, zi_w_id (by omega) (by omega)]
    rw [st _ rfl]
    have r2 : 0 ≤ (if zb b i = true then f i else 0) ∧ (if zb b i = true then f i else 0) ≤ 999 := by split <;> omega
    have hs2 : s + (if zb b i = true then f i else 0) = ysS f b (i + 1) := by rw [hs]; rfl
    generalize (if zb b i = true then f i else 0) = v at r2 hs2
    rw [zi_w_id (x := s + v) (by omega) (by omega)]
    exact ih (i + 1) _ n (by omega) (by omega) hs2 ⟨by omega, by omega⟩
theorem ysx_sum {f g : Int → Int} {b : Int} (hb : z24 b) (e : ∀ i, 0 ≤ i → i < 24 → g i = f i) (h : ∀ i, 0 ≤ i → i < 24 → 0 ≤ f i ∧ f i ≤ 999) : zf_Chooser_worthOf b g = some (ysS f b 24) ∧ zf_Chooser_weightOf b g = some (ysS f b 24) := by
  obtain ⟨a1, a2⟩ := ysx_sum_l hb e h 24 0 0 zi_fu rfl (by decide) rfl ⟨by decide, by decide⟩
  unfold zf_Chooser_worthOf zf_Chooser_weightOf
  rw [show zf_Chooser_worthOf_l0 b g zi_fu 0 0 = _ from a1, show zf_Chooser_weightOf_l0 b g zi_fu 0 0 = _ from a2]
  exact ⟨rfl, rfl⟩
end YSP2
