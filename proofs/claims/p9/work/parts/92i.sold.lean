/-! sold: alike on both sides. -/
def ysC (w hv : Int → Int) (W : Int → Int) (i c : Int) : Prop := hv i ≤ c ∧ W c < W (c - hv i) + w i
def ysW (w hv : Int → Int) : Nat → Int → Int
  | 0, _ => 0
  | i + 1, c => if hv i ≤ c ∧ ysW w hv i c < ysW w hv i (c - hv i) + w i then ysW w hv i (c - hv i) + w i else ysW w hv i c
def ysB (w hv : Int → Int) : Nat → Int → Int
  | 0, _ => 0
  | i + 1, c => if hv i ≤ c ∧ ysW w hv i c < ysW w hv i (c - hv i) + w i then zi_or (ysB w hv i (c - hv i)) (zi_shl 1 i) else ysB w hv i c
def ysV (w hv : Int → Int) : Nat → Int → Int
  | 0, _ => 0
  | i + 1, c => if hv i ≤ c ∧ ysW w hv i c < ysW w hv i (c - hv i) + w i then ysV w hv i (c - hv i) + hv i else ysV w hv i c
def ysS (f : Int → Int) (b : Int) : Nat → Int
  | 0 => 0
  | n + 1 => ysS f b n + (if zb b n = true then f n else 0)
def ysR (w hv : Int → Int) : Prop := ∀ i, 0 ≤ i → i < 24 → (0 ≤ w i ∧ w i ≤ 999) ∧ (0 ≤ hv i ∧ hv i ≤ 99)
section YSO
variable {w hv : Int → Int}
theorem ysW_in (h : ysR w hv) : ∀ (i : Nat) (c : Int), i ≤ 24 → 0 ≤ ysW w hv i c ∧ ysW w hv i c ≤ 999 * i
  | 0, _, _ => ⟨Int.le_refl 0, Int.le_refl 0⟩
  | i + 1, c, hi => by
    obtain ⟨a1, a2⟩ := ysW_in h i c (by omega)
    obtain ⟨b1, b2⟩ := ysW_in h i (c - hv i) (by omega)
    obtain ⟨⟨c1, c2⟩, -⟩ := h i (by omega) (by omega)
    show 0 ≤ (if hv i ≤ c ∧ ysW w hv i c < ysW w hv i (c - hv i) + w i then ysW w hv i (c - hv i) + w i else ysW w hv i c) ∧ (if hv i ≤ c ∧ ysW w hv i c < ysW w hv i (c - hv i) + w i then ysW w hv i (c - hv i) + w i else ysW w hv i c) ≤ 999 * ((i + 1 : Nat) : Int)
    split <;> omega
theorem ysW_mono (h : ysR w hv) : ∀ (i : Nat) (c d : Int), i ≤ 24 → c ≤ d → ysW w hv i c ≤ ysW w hv i d
  | 0, _, _, _, _ => Int.le_refl 0
  | i + 1, c, d, hi, hcd => by
    have a := ysW_mono h i c d (by omega) hcd
    have b := ysW_mono h i (c - hv i) (d - hv i) (by omega) (by omega)
    show (if hv i ≤ c ∧ ysW w hv i c < ysW w hv i (c - hv i) + w i then ysW w hv i (c - hv i) + w i else ysW w hv i c) ≤ (if hv i ≤ d ∧ ysW w hv i d < ysW w hv i (d - hv i) + w i then ysW w hv i (d - hv i) + w i else ysW w hv i d)
    split <;> split <;> omega
theorem ysB_in : ∀ (i : Nat) (c : Int), i ≤ 24 → z24 (ysB w hv i c) ∧ ∀ j : Nat, i ≤ j → zb (ysB w hv i c) j = false
  | 0, _, _ => ⟨z24_0, fun _ _ => zb_0⟩
  | i + 1, c, hi => by
    show z24 (if hv i ≤ c ∧ ysW w hv i c < ysW w hv i (c - hv i) + w i then zi_or (ysB w hv i (c - hv i)) (zi_shl 1 i) else ysB w hv i c) ∧ ∀ j : Nat, i + 1 ≤ j → zb (if hv i ≤ c ∧ ysW w hv i c < ysW w hv i (c - hv i) + w i then zi_or (ysB w hv i (c - hv i)) (zi_shl 1 i) else ysB w hv i c) j = false
    split
    · obtain ⟨a1, a2⟩ := ysB_in i (c - hv i) (by omega)
      refine ⟨z24_or a1 (z24_shl (by omega) (by omega)), fun j hj => ?_⟩
      rw [zb_or, a2 j (by omega), zb_shl (by omega) (by omega), Int.toNat_natCast, decide_eq_false (by omega)]; rfl
    · obtain ⟨a1, a2⟩ := ysB_in i c (by omega)
      exact ⟨a1, fun j hj => a2 j (by omega)⟩
theorem ysV_in (h : ysR w hv) : ∀ (i : Nat) (c : Int), i ≤ 24 → 0 ≤ c → 0 ≤ ysV w hv i c ∧ ysV w hv i c ≤ c
  | 0, _, _, h0 => ⟨Int.le_refl 0, h0⟩
  | i + 1, c, hi, h0 => by
    obtain ⟨-, c1, c2⟩ := h i (by omega) (by omega)
    show 0 ≤ (if hv i ≤ c ∧ ysW w hv i c < ysW w hv i (c - hv i) + w i then ysV w hv i (c - hv i) + hv i else ysV w hv i c) ∧ (if hv i ≤ c ∧ ysW w hv i c < ysW w hv i (c - hv i) + w i then ysV w hv i (c - hv i) + hv i else ysV w hv i c) ≤ c
    split
    · rename_i q
      have := ysV_in h i (c - hv i) (by omega) (by omega)
      omega
    · exact ysV_in h i c (by omega) h0
theorem ysS_eq {f : Int → Int} {a b : Int} : ∀ n : Nat, (∀ j, j < n → zb a j = zb b j) → ysS f a n = ysS f b n
  | 0, _ => rfl
  | n + 1, h => by
    show ysS f a n + (if zb a n = true then f n else 0) = ysS f b n + (if zb b n = true then f n else 0)
    rw [ysS_eq n fun j hj => h j (by omega), h n (by omega)]
theorem ysS_add {f : Int → Int} {a b : Int} {k : Nat} (hk : zb a k = false) (hb : zb b k = true) : ∀ n : Nat, k < n → (∀ j, j < n → j ≠ k → zb a j = zb b j) → ysS f b n = ysS f a n + f k
  | 0, h, _ => by omega
  | n + 1, h, e => by
    show ysS f b n + (if zb b n = true then f n else 0) = ysS f a n + (if zb a n = true then f n else 0) + f k
    by_cases q : k = n
    · subst q
      rw [ysS_eq k fun j hj => (e j (by omega) (by omega)).symm, hk, hb, if_pos rfl, if_neg (by decide)]; omega
    · rw [ysS_add hk hb n (by omega) fun j hj => e j (by omega), e n (by omega) (fun z => q z.symm)]; omega
theorem ysS_0 {f : Int → Int} : ∀ n : Nat, ysS f 0 n = 0
  | 0 => rfl
  | n + 1 => by
    show ysS f 0 n + (if zb 0 n = true then f n else 0) = 0
    rw [ysS_0 n, zb_0]; rfl
theorem ysS_or {f : Int → Int} {b : Int} {i : Nat} (hi : i < 24) (h0 : zb b i = false) : ysS f (zi_or b (zi_shl 1 i)) 24 = ysS f b 24 + f i := by
  refine ysS_add h0 ?_ 24 hi fun j hj hne => ?_
  · rw [zb_or, zb_shl (by omega) (by omega), Int.toNat_natCast, decide_eq_true rfl, Bool.or_true]
  · rw [zb_or, zb_shl (by omega) (by omega), Int.toNat_natCast, decide_eq_false hne, Bool.or_false]
theorem ysS_W : ∀ (i : Nat) (c : Int), i ≤ 24 → ysS w (ysB w hv i c) 24 = ysW w hv i c
  | 0, _, _ => ysS_0 24
  | i + 1, c, hi => by
    show ysS w (if hv i ≤ c ∧ ysW w hv i c < ysW w hv i (c - hv i) + w i then zi_or (ysB w hv i (c - hv i)) (zi_shl 1 i) else ysB w hv i c) 24 = (if hv i ≤ c ∧ ysW w hv i c < ysW w hv i (c - hv i) + w i then ysW w hv i (c - hv i) + w i else ysW w hv i c)
    split
    · rw [ysS_or (by omega) ((ysB_in i (c - hv i) (by omega)).2 i (Nat.le_refl _)), ysS_W i (c - hv i) (by omega)]
    · exact ysS_W i c (by omega)
theorem ysS_V : ∀ (i : Nat) (c : Int), i ≤ 24 → ysS hv (ysB w hv i c) 24 = ysV w hv i c
  | 0, _, _ => ysS_0 24
  | i + 1, c, hi => by
    show ysS hv (if hv i ≤ c ∧ ysW w hv i c < ysW w hv i (c - hv i) + w i then zi_or (ysB w hv i (c - hv i)) (zi_shl 1 i) else ysB w hv i c) 24 = (if hv i ≤ c ∧ ysW w hv i c < ysW w hv i (c - hv i) + w i then ysV w hv i (c - hv i) + hv i else ysV w hv i c)
    split
    · rw [ysS_or (by omega) ((ysB_in i (c - hv i) (by omega)).2 i (Nat.le_refl _)), ysS_V i (c - hv i) (by omega)]
    · exact ysS_V i c (by omega)
/-- the class: one star is offered -/
theorem ys_offer_l (h : ysR w hv) {i : Nat} (hi : i < 24) {most : Int} (m2 : most ≤ 999) {wg wt : Int → Int} (e1 : wg i = hv i) (e2 : wt i = w i) : ∀ (d : Nat) (x : Int) (A B : Int → Int) (n : Nat), x + 1 ≤ d → -1 ≤ x → x ≤ most → d < n →
    (∀ c, 0 ≤ c → c ≤ x → A c = ysW w hv i c ∧ B c = ysB w hv i c) → (∀ c, x < c → c ≤ most → A c = ysW w hv (i + 1) c ∧ B c = ysB w hv (i + 1) c) →
    ∃ A' B', zf_Chooser_offer_l0 i wg wt n x A B = some (A', B') ∧ ∀ c, 0 ≤ c → c ≤ most → A' c = ysW w hv (i + 1) c ∧ B' c = ysB w hv (i + 1) c := by
  obtain ⟨⟨w1, w2⟩, h1, h2⟩ := h i (by omega) (by omega)
  intro d
  induction d with
  | zero =>
    intro x A B n e x0 x1 hn hA hB
    obtain ⟨n, rfl⟩ : ∃ q, n = q + 1 := ⟨n - 1, by omega⟩
    refine ⟨A, B, ?_, fun c c0 c1 => hB c (by omega) c1⟩
    show zf_Chooser_offer_l0_b i wg wt (zf_Chooser_offer_l0 i wg wt n) x A B = _
    unfold zf_Chooser_offer_l0_b
    rw [zl_ci (by omega) (by omega), e1, if_pos (by omega)]
  | succ d ih =>
    intro x A B n e x0 x1 hn hA hB
    obtain ⟨n, rfl⟩ : ∃ q, n = q + 1 := ⟨n - 1, by omega⟩
    show ∃ A' B', zf_Chooser_offer_l0_b i wg wt (zf_Chooser_offer_l0 i wg wt n) x A B = some (A', B') ∧ _
    unfold zf_Chooser_offer_l0_b
    rw [zl_ci (by omega) (by omega), e1, e2]
    by_cases q : x < hv i
    · rw [if_pos q]
      refine ⟨A, B, rfl, fun c c0 c1 => ?_⟩
      by_cases z : x < c
      · exact hB c z c1
      · obtain ⟨a1, a2⟩ := hA c c0 (by omega)
        rw [a1, a2]
        constructor
        · show _ = (if hv i ≤ c ∧ ysW w hv i c < ysW w hv i (c - hv i) + w i then ysW w hv i (c - hv i) + w i else ysW w hv i c)
          rw [if_neg (fun k => by omega)]
        · show _ = (if hv i ≤ c ∧ ysW w hv i c < ysW w hv i (c - hv i) + w i then zi_or (ysB w hv i (c - hv i)) (zi_shl 1 i) else ysB w hv i c)
          rw [if_neg (fun k => by omega)]
    · obtain ⟨a1, a2⟩ := hA x (by omega) (Int.le_refl _)
      obtain ⟨b1, b2⟩ := hA (x - hv i) (by omega) (by omega)
      have k1 := ysW_in h i (x - hv i) (by omega)
      rw [if_neg q, zi_w_id (x := x - hv i) (by omega) (by omega), zl_ci (by omega) (by omega), zl_ci (by omega) (by omega), a1, b1, b2, zi_w_id (x := ysW w hv i (x - hv i) + w i) (by omega) (by omega), zi_w_id (x := x + -1) (by omega) (by omega)]
      by_cases c : ysW w hv i x < ysW w hv i (x - hv i) + w i
      · rw [if_pos c]
        refine ih (x + -1) _ _ n (by omega) (by omega) (by omega) (by omega) (fun j j0 j1 => ?_) (fun j j0 j1 => ?_)
        · rw [zv_up_n (by omega), zv_up_n (by omega)]; exact hA j j0 (by omega)
        · by_cases z : j = x
          · subst z
            rw [zv_up_s, zv_up_s]
            constructor
            · show _ = (if hv i ≤ j ∧ ysW w hv i j < ysW w hv i (j - hv i) + w i then ysW w hv i (j - hv i) + w i else ysW w hv i j)
              rw [if_pos ⟨by omega, c⟩]
            · show _ = (if hv i ≤ j ∧ ysW w hv i j < ysW w hv i (j - hv i) + w i then zi_or (ysB w hv i (j - hv i)) (zi_shl 1 i) else ysB w hv i j)
              rw [if_pos ⟨by omega, c⟩]
          · rw [zv_up_n z, zv_up_n z]; exact hB j (by omega) j1
      · rw [if_neg c]
        refine ih (x + -1) _ _ n (by omega) (by omega) (by omega) (by omega) (fun j j0 j1 => hA j j0 (by omega)) (fun j j0 j1 => ?_)
        by_cases z : j = x
        · subst z
          rw [a1, a2]
          constructor
          · show _ = (if hv i ≤ j ∧ ysW w hv i j < ysW w hv i (j - hv i) + w i then ysW w hv i (j - hv i) + w i else ysW w hv i j)
            rw [if_neg (fun k => c k.2)]
          · show _ = (if hv i ≤ j ∧ ysW w hv i j < ysW w hv i (j - hv i) + w i then zi_or (ysB w hv i (j - hv i)) (zi_shl 1 i) else ysB w hv i j)
            rw [if_neg (fun k => c k.2)]
        · exact hB j (by omega) j1
theorem ysW_st (h : ysR w hv) {i : Nat} (hi : i < 24) (h0 : w i = 0) (c : Int) : ysW w hv (i + 1) c = ysW w hv i c ∧ ysB w hv (i + 1) c = ysB w hv i c := by
  obtain ⟨-, h1, h2⟩ := h i (by omega) (by omega)
  have m := ysW_mono h i (c - hv i) c (by omega) (by omega)
  constructor
  · show (if hv i ≤ c ∧ ysW w hv i c < ysW w hv i (c - hv i) + w i then ysW w hv i (c - hv i) + w i else ysW w hv i c) = _
    rw [if_neg (fun k => by omega)]
  · show (if hv i ≤ c ∧ ysW w hv i c < ysW w hv i (c - hv i) + w i then zi_or (ysB w hv i (c - hv i)) (zi_shl 1 i) else ysB w hv i c) = _
    rw [if_neg (fun k => by omega)]
theorem ys_best_l (h : ysR w hv) {most t : Int} (m1 : 0 ≤ most) (m2 : most ≤ 999) (ht : ∀ i : Nat, i < 24 → ¬ zb t i = true → w i = 0) {wg wt : Int → Int} (e1 : ∀ i, 0 ≤ i → i < 24 → wg i = hv i) (e2 : ∀ i, 0 ≤ i → i < 24 → wt i = w i) : ∀ (d i : Nat) (A B : Int → Int) (n : Nat), i + d = 24 → d < n →
    (∀ c, 0 ≤ c → c ≤ most → A c = ysW w hv i c ∧ B c = ysB w hv i c) →
    ∃ A' B', zf_Chooser_bestSold_l0 t most wt wg n i A B = some (A', B') ∧ ∀ c, 0 ≤ c → c ≤ most → A' c = ysW w hv 24 c ∧ B' c = ysB w hv 24 c := by
  intro d
  induction d with
  | zero =>
    intro i A B n e hn hA
    obtain ⟨n, rfl⟩ : ∃ q, n = q + 1 := ⟨n - 1, by omega⟩
    obtain rfl : i = 24 := by omega
    refine ⟨A, B, ?_, hA⟩
    show zf_Chooser_bestSold_l0_b t most wt wg (zf_Chooser_bestSold_l0 t most wt wg n) ((24 : Nat) : Int) A B = _
    unfold zf_Chooser_bestSold_l0_b
    rw [if_neg (by decide)]
  | succ d ih =>
    intro i A B n e hn hA
    obtain ⟨n, rfl⟩ : ∃ q, n = q + 1 := ⟨n - 1, by omega⟩
    show ∃ A' B', zf_Chooser_bestSold_l0_b t most wt wg (zf_Chooser_bestSold_l0 t most wt wg n) i A B = some (A', B') ∧ _
    unfold zf_Chooser_bestSold_l0_b
    rw [if_pos (by omega), zi_w_id (x := (i : Int) + 1) (by omega) (by omega), show ((i : Int) + 1) = ((i + 1 : Nat) : Int) by omega, zl_ci (by omega) (by omega), e2 i (by omega) (by omega)]
    have skip : w i = 0 → ∃ A' B', zf_Chooser_bestSold_l0 t most wt wg n ((i + 1 : Nat) : Int) A B = some (A', B') ∧ ∀ c, 0 ≤ c → c ≤ most → A' c = ysW w hv 24 c ∧ B' c = ysB w hv 24 c := fun hw =>
      ih (i + 1) A B n (by omega) (by omega) fun c c0 c1 => by
        obtain ⟨a1, a2⟩ := hA c c0 c1
        obtain ⟨b1, b2⟩ := ysW_st h (by omega : i < 24) hw c
        rw [a1, a2, b1, b2]; exact ⟨rfl, rfl⟩
    by_cases q : zb t i = true
    · rw [zb_bit1 (by omega) (by omega) (by rw [Int.toNat_natCast]; exact q), if_neg (show ¬ (1 : Int) = 0 by decide)]
      by_cases z : 0 < w i
      · rw [if_pos z]
        obtain ⟨A1, B1, e3, h3⟩ := ys_offer_l h (by omega : i < 24) m2 (e1 i (by omega) (by omega)) (e2 i (by omega) (by omega)) 1000 most A B zi_fu (by omega) (by omega) (Int.le_refl _) (by decide) hA (fun c c0 c1 => by omega)
        unfold zf_Chooser_offer
        rw [e3, zl_b, zl_b]
        exact ih (i + 1) A1 B1 n (by omega) (by omega) h3
      · rw [if_neg z]
        have := (h i (by omega) (by omega)).1
        exact skip (by omega)
    · rw [zb_bit0 (by omega) (by omega) (by rw [Int.toNat_natCast]; exact q), if_pos rfl]
      exact skip (ht i (by omega) q)
theorem ze_fill1000_l0 {v : Int} : ∀ (d : Nat) (j : Int) (g : Int → Int) (n : Nat), j + d = 1000 → 0 ≤ j → d < n → ∃ g2, zf_Arrays_fill_1000_l0 v 1000 n j g = some g2 ∧ (∀ i, j ≤ i → i < 1000 → g2 i = v) ∧ ∀ i, i < j → g2 i = g i := by
  intro d
  induction d with
  | zero =>
    intro j g n e _ hn
    obtain ⟨n, rfl⟩ : ∃ q, n = q + 1 := ⟨n - 1, by omega⟩
    refine ⟨g, ?_, fun i _ _ => by omega, fun _ _ => rfl⟩
    show zf_Arrays_fill_1000_l0_b v 1000 (zf_Arrays_fill_1000_l0 v 1000 n) j g = _
    unfold zf_Arrays_fill_1000_l0_b
    rw [if_neg (by omega)]
  | succ d ih =>
    intro j g n e j0 hn
    obtain ⟨n, rfl⟩ : ∃ q, n = q + 1 := ⟨n - 1, by omega⟩
    obtain ⟨g2, e1, a, b⟩ := ih (j + 1) (zv_up g j v) n (by omega) (by omega) (by omega)
    refine ⟨g2, ?_, fun i i1 i2 => ?_, fun i i1 => ?_⟩
    · show zf_Arrays_fill_1000_l0_b v 1000 (zf_Arrays_fill_1000_l0 v 1000 n) j g = _
      unfold zf_Arrays_fill_1000_l0_b
      rw [if_pos (by omega), zl_ci j0 (by omega), zi_w_id (x := j + 1) (by omega) (by omega), e1]
    · by_cases q : i = j
      · subst q
        rw [b i (by omega), zv_up_s]
      · exact a i (by omega) i2
    · rw [b i (by omega), zv_up_n (by omega)]
theorem ys_best (h : ysR w hv) {most t : Int} (m1 : 0 ≤ most) (m2 : most ≤ 999) (ht : ∀ i : Nat, i < 24 → ¬ zb t i = true → w i = 0) {wg wt g0 g1 : Int → Int} (e1 : ∀ i, 0 ≤ i → i < 24 → wg i = hv i) (e2 : ∀ i, 0 ≤ i → i < 24 → wt i = w i) :
    ∃ A' B', zf_Chooser_bestSold t most g0 g1 wt wg = some (ysB w hv 24 most, A', B') := by
  obtain ⟨A, f1, a1, -⟩ := ze_fill1000_l0 (v := 0) 1000 0 g0 zi_fu (by decide) (by decide) (by decide)
  obtain ⟨B, f2, b1, -⟩ := ze_fill1000_l0 (v := 0) 1000 0 g1 zi_fu (by decide) (by decide) (by decide)
  obtain ⟨A', B', e3, h3⟩ := ys_best_l h m1 m2 ht e1 e2 24 0 A B zi_fu rfl (by decide) fun c c0 c1 => ⟨a1 c c0 (by omega), b1 c c0 (by omega)⟩
  refine ⟨A', B', ?_⟩
  unfold zf_Chooser_bestSold zf_Arrays_fill_1000
  rw [f1, zl_b, zl_b, f2, zl_b, zl_b, show zf_Chooser_bestSold_l0 t most wt wg zi_fu 0 A B = _ from e3, zl_b, zl_ci m1 (by omega)]
  dsimp only
  rw [(h3 most m1 (Int.le_refl _)).2]
end YSO
