/-! What a search begins with: rows and twins. -/
/-- twins, as far as they are noted: of the stars below i, and of i as far as m -/
def ym_ti (z : Int) (J T : Int → Int) (i m : Nat) : Prop :=
  (∀ p : Nat, p < i → ∀ q, zb (T p) q = true ↔ (q < i ∧ (q = p ∨ ym_tw z J p q)) ∨ (q = i ∧ p < m ∧ ym_tw z J p i)) ∧ ∀ q, zb (T i) q = true ↔ q = i ∨ (q < m ∧ ym_tw z J i q)
theorem ym_begin_l2 {z : Int} {J : Int → Int} (hJ : ∀ i : Nat, i < 24 → z24 (J i)) {i : Nat} (hi : i < 24) {T : Int → Int} (hT : ym_ti z J T i 0) : zh_ok (zf_Matcher_begin_24_l2 z i J zi_fu 0 T) fun T' => ym_ti z J T' i i := by
  refine zh_loop (F := fun n j (a : Int → Int) => zf_Matcher_begin_24_l2 z i J n j a) (N := (i : Int)) (I := fun j a => ym_ti z J a i j.toNat) (fun n j a j0 j1 hI k => ?_) 24 0 T zi_fu (by omega) (by decide) (by omega) (by decide) hT
  show zh_ok (zf_Matcher_begin_24_l2_b z i J (zf_Matcher_begin_24_l2 z i J n) j a) _
  unfold zf_Matcher_begin_24_l2_b
  obtain ⟨m, rfl⟩ : ∃ m : Nat, j = m := ⟨j.toNat, by omega⟩
  have hI : ym_ti z J a i m := hI
  refine zh_ite (fun hj => ?_) fun hj => zh_ret (by rw [show m = i by omega] at hI; exact hI)
  have hm : m < i := by omega
  obtain ⟨h1, h2⟩ := id hI
  by_cases hz : zb z i = true
  · rw [zb_bit1 (t := z) (i := (i : Int)) (by omega) (by omega) hz, if_neg (show ¬ (1 : Int) = 0 by decide), zl_ci (a := (i : Int)) (by omega) (by omega), zl_ci j0 (by omega), zi_w_id (x := (m : Int) + 1) (by omega) (by omega)]
    have e1 : ((m : Int) + 1).toNat = m + 1 := by omega
    have kk : ∀ a', ym_ti z J a' i (m + 1) → zh_ok (zf_Matcher_begin_24_l2 z i J n ((m : Int) + 1) a') _ := fun a' q => k a' hj (by rw [e1]; exact q)
    have no : ¬ ym_tw z J i m → ym_ti z J a i (m + 1) := fun hno => ⟨fun p hp q => by
      rw [h1 p hp q]
      constructor
      · rintro (h | ⟨h3, h4, h5⟩)
        · exact .inl h
        · exact .inr ⟨h3, by omega, h5⟩
      · rintro (h | ⟨h3, h4, h5⟩)
        · exact .inl h
        · refine .inr ⟨h3, ?_, h5⟩
          by_cases e : p = m
          · subst e; exact absurd (ym_tw_s h5) hno
          · omega, fun q => by
      rw [h2 q]
      constructor
      · rintro (h | ⟨h3, h4⟩)
        · exact .inl h
        · exact .inr ⟨by omega, h4⟩
      · rintro (h | ⟨h3, h4⟩)
        · exact .inl h
        · refine .inr ⟨?_, h4⟩
          by_cases e : q = m
          · subst e; exact absurd h4 hno
          · omega⟩
    refine zh_ite (fun hc => ?_) fun hc => kk _ (no fun w => hc ((ym_tc hi (by omega) hJ).mpr w.2.2))
    by_cases hzm : zb z m = true
    · rw [zb_bit1 (t := z) (i := (m : Int)) j0 (by omega) hzm, if_neg (show ¬ (1 : Int) = 0 by decide)]
      have htw : ym_tw z J i m := ⟨hz, hzm, (ym_tc hi (by omega) hJ).mp hc⟩
      rw [zv_up_n (show (m : Int) ≠ (i : Int) by omega)]
      refine kk _ ⟨fun p hp q => ?_, fun q => ?_⟩
      · by_cases e : p = m
        · subst e
          rw [zv_up_s, zb_or, Bool.or_eq_true, h1 p hp q, zb_shl (by omega) (by omega), decide_eq_true_iff, Int.toNat_natCast]
          constructor
          · rintro ((h | ⟨h3, h4, h5⟩) | h)
            · exact .inl h
            · omega
            · exact .inr ⟨h, by omega, ym_tw_s htw⟩
          · rintro (h | ⟨h3, h4, h5⟩)
            · exact .inl (.inl h)
            · exact .inr h3
        · rw [zv_up_n (by omega), zv_up_n (by omega), h1 p hp q]
          constructor
          · rintro (h | ⟨h3, h4, h5⟩)
            · exact .inl h
            · exact .inr ⟨h3, by omega, h5⟩
          · rintro (h | ⟨h3, h4, h5⟩)
            · exact .inl h
            · exact .inr ⟨h3, by omega, h5⟩
      · rw [zv_up_n (by omega), zv_up_s, zb_or, Bool.or_eq_true, h2 q, zb_shl (by omega) (by omega), decide_eq_true_iff, Int.toNat_natCast]
        constructor
        · rintro ((h | ⟨h3, h4⟩) | h)
          · exact .inl h
          · exact .inr ⟨by omega, h4⟩
          · exact .inr ⟨by omega, by rw [h]; exact htw⟩
        · rintro (h | ⟨h3, h4⟩)
          · exact .inl (.inl h)
          · by_cases e : q = m
            · exact .inr e
            · exact .inl (.inr ⟨by omega, h4⟩)
    · rw [zb_bit0 (t := z) (i := (m : Int)) j0 (by omega) hzm, if_pos rfl]
      exact kk _ (no fun w => hzm w.2.1)
  · rw [zb_bit0 (t := z) (i := (i : Int)) (by omega) (by omega) hz, if_pos rfl]
    refine zh_ret ⟨fun p hp q => ?_, fun q => ?_⟩
    · rw [h1 p hp q]
      constructor
      · rintro (h | ⟨h3, h4, h5⟩)
        · exact .inl h
        · exact absurd h5.2.1 hz
      · rintro (h | ⟨h3, h4, h5⟩)
        · exact .inl h
        · exact absurd h5.2.1 hz
    · rw [h2 q]
      constructor
      · rintro (h | ⟨h3, h4⟩)
        · exact .inl h
        · exact absurd h4.1 hz
      · rintro (h | ⟨h3, h4⟩)
        · exact .inl h
        · exact absurd h4.1 hz
theorem ym_begin {z f2 : Int} {J G nr T : Int → Int} (hJ : ∀ i : Nat, i < 24 → z24 (J i)) (hn : ∀ j : Nat, j < 8 → z24 (nr j)) :
    zh_ok (zf_Matcher_begin_24 z f2 J G nr T) fun o => o.1 = 0 ∧ (∀ b : Nat, b < 8 → z24 (o.2.1 b) ∧ ∀ q, zb (o.2.1 b) q = (decide (q < 24) && (zb z q && decide (zs_sum (nr b) 24 ≤ zs_sum (zi_and (J q) z) 24)))) ∧ ∀ p : Nat, p < 24 → ∀ q, zb (o.2.2 p) q = true ↔ q < 24 ∧ (q = p ∨ ym_tw z J p q) := by
  unfold zf_Matcher_begin_24
  refine zh_bind (Q := fun g => ∀ b : Nat, b < 8 → z24 (g b) ∧ ∀ q, zb (g b) q = (decide (q < 24) && (zb z q && decide (zs_sum (nr b) 24 ≤ zs_sum (zi_and (J q) z) 24)))) (zh_loop (F := fun n i (a : Int → Int) => zf_Matcher_begin_24_l0 z J nr n i a) (N := 8) (I := fun i g => ∀ b : Nat, (b : Int) < i → z24 (g b) ∧ ∀ q, zb (g b) q = (decide (q < 24) && (zb z q && decide (zs_sum (nr b) 24 ≤ zs_sum (zi_and (J q) z) 24)))) (fun n i a i0 i1 hI k => ?_) 8 0 G zi_fu (by decide) (by decide) (by decide) (by decide) fun b hb => by omega) fun g hg =>
    zh_bind (Q := fun t => ∀ p : Nat, p < 24 → ∀ q, zb (t p) q = true ↔ q < 24 ∧ (q = p ∨ ym_tw z J p q)) (zh_loop (F := fun n i (a : Int → Int) => zf_Matcher_begin_24_l1 z J n i a) (N := 24) (I := fun i t => ∀ p : Nat, (p : Int) < i → ∀ q : Nat, zb (t p) q = true ↔ (q : Int) < i ∧ (q = p ∨ ym_tw z J p q)) (fun n i a i0 i1 hI k => ?_) 24 0 T zi_fu (by decide) (by decide) (by decide) (by decide) fun p hp => by omega) fun t ht => zh_ret ⟨rfl, hg, ht⟩
  · show zh_ok (zf_Matcher_begin_24_l0_b z J nr (zf_Matcher_begin_24_l0 z J nr n) i a) _
    unfold zf_Matcher_begin_24_l0_b
    refine zh_ite (fun hi => ?_) fun hi => zh_ret fun b hb => hI b (by omega)
    obtain ⟨m, rfl⟩ : ∃ m : Nat, i = m := ⟨i.toNat, by omega⟩
    rw [zi_w_id (x := (m : Int) + 1) (by omega) (by omega), zl_ci (n := 8) i0 (by omega), ze_bc (hn m (by omega)), zl_b]
    refine zh_bind (ym_withLegs hJ) fun s hs => ?_
    rw [zl_ci i0 (by omega)]
    refine k _ hi fun b hb => ?_
    by_cases e : b = m
    · subst e; rw [zv_up_s]; exact hs
    · rw [zv_up_n (by omega)]; exact hI b (by omega)
  · show zh_ok (zf_Matcher_begin_24_l1_b z J (zf_Matcher_begin_24_l1 z J n) i a) _
    unfold zf_Matcher_begin_24_l1_b
    refine zh_ite (fun hi => ?_) fun hi => zh_ret fun p hp q => by
      rw [hI p (by omega) q]
      constructor
      · rintro ⟨h1, h2⟩; exact ⟨by omega, h2⟩
      · rintro ⟨h1, h2⟩; exact ⟨by omega, h2⟩
    obtain ⟨m, rfl⟩ : ∃ m : Nat, i = m := ⟨i.toNat, by omega⟩
    rw [zi_w_id (x := (m : Int) + 1) (by omega) (by omega), zl_ci i0 (by omega)]
    refine zh_bind (ym_begin_l2 hJ (by omega : m < 24) (T := zv_up a (m : Int) (zi_shl 1 (m : Int))) ⟨fun p hp q => ?_, fun q => ?_⟩) fun t ht => k t hi fun p hp q => ?_
    · rw [zv_up_n (by omega), hI p (by omega) q]
      constructor
      · rintro ⟨h1, h2⟩; exact .inl ⟨by omega, h2⟩
      · rintro (⟨h1, h2⟩ | ⟨h1, h2, h3⟩)
        · exact ⟨by omega, h2⟩
        · omega
    · rw [zv_up_s, zb_shl (by omega) (by omega), decide_eq_true_iff, Int.toNat_natCast]
      constructor
      · intro h; exact .inl h
      · rintro (h | ⟨h1, h2⟩)
        · exact h
        · omega
    · by_cases e : p = m
      · subst e
        rw [ht.2 q]
        constructor
        · rintro (h | ⟨h1, h2⟩)
          · exact ⟨by omega, .inl h⟩
          · exact ⟨by omega, .inr h2⟩
        · rintro ⟨h1, h | h⟩
          · exact .inl h
          · by_cases e2 : q = p
            · exact .inl e2
            · exact .inr ⟨by omega, h⟩
      · rw [ht.1 p (by omega) q]
        constructor
        · rintro (⟨h1, h2⟩ | ⟨h1, h2, h3⟩)
          · exact ⟨by omega, h2⟩
          · subst h1; exact ⟨by omega, .inr h3⟩
        · rintro ⟨h1, h2⟩
          by_cases e2 : q = m
          · subst e2
            rcases h2 with h2 | h2
            · omega
            · exact .inr ⟨rfl, by omega, h2⟩
          · exact .inl ⟨by omega, h2⟩
