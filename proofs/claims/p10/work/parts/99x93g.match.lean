/-! The matcher's small functions: what they answer, bit by bit. -/
def ym_nw (nr J : Int → Int) (a i v b : Int) : Int := if zb (nr a) b.toNat = true then zi_and (zi_and v (zi_xor (zi_shl 1 i) (-1))) (J i) else zi_and v (zi_xor (zi_shl 1 i) (-1))
theorem ym_narrow {x1 x2 a i : Int} {G nr J : Int → Int} (h1 : 0 ≤ x1) (h2 : x1 < 8) (a0 : 0 ≤ a) (a1 : a < 8) (i0 : 0 ≤ i) (i1 : i < 24) :
    zh_ok (zf_Matcher_narrow x1 x2 a i G nr J) fun o => (∀ q, q < 8 * x1 + 8 → o.2 q = G q) ∧ ((o.1 = 1 ∧ ∀ b : Int, 0 ≤ b → b < 8 → zb x2 b.toNat = true → o.2 (8 * x1 + 8 + b) = ym_nw nr J a i (G (8 * x1 + b)) b) ∨ (o.1 = 0 ∧ ∃ b : Int, 0 ≤ b ∧ b < 8 ∧ zb x2 b.toNat = true ∧ ym_nw nr J a i (G (8 * x1 + b)) b = 0)) := by
  unfold zf_Matcher_narrow
  rw [zi_w_id (x := x1 * 8) (by omega) (by omega), zi_w_id (x := x1 * 8 + 8) (by omega) (by omega), show x1 * 8 = 8 * x1 from Int.mul_comm _ _]
  obtain ⟨o, eo⟩ : ∃ o, o = 8 * x1 := ⟨_, rfl⟩
  rw [← eo]
  have o0 : 0 ≤ o := by omega
  have o1 : o ≤ 56 := by omega
  refine zh_sum (Q := fun q => match q with
    | .inl g => (∀ q, q < o + 8 → g q = G q) ∧ ∀ b : Int, 0 ≤ b → b < 8 → zb x2 b.toNat = true → g (o + 8 + b) = ym_nw nr J a i (G (o + b)) b
    | .inr w => w.1 = 0 ∧ (∀ q, q < o + 8 → w.2 q = G q) ∧ ∃ b : Int, 0 ≤ b ∧ b < 8 ∧ zb x2 b.toNat = true ∧ ym_nw nr J a i (G (o + b)) b = 0) (zh_loop (F := fun n j (g : Int → Int) => zf_Matcher_narrow_l0 x2 a i o (o + 8) nr J n j g) (N := 8) (I := fun j g => (∀ q, q < o + 8 → g q = G q) ∧ ∀ b : Int, 0 ≤ b → b < j → zb x2 b.toNat = true → g (o + 8 + b) = ym_nw nr J a i (G (o + b)) b) (fun n j g j0 j1 hI k => ?_) 8 0 G zi_fu (by decide) (by decide) (by decide) (by decide) ⟨fun _ _ => rfl, fun b b0 b1 => by omega⟩) (fun g hg => zh_ret ⟨hg.1, .inl ⟨rfl, hg.2⟩⟩) fun w hw => zh_ret ⟨hw.2.1, .inr ⟨hw.1, hw.2.2⟩⟩
  obtain ⟨f1, f2⟩ := hI
  show zh_ok (zf_Matcher_narrow_l0_b x2 a i o (o + 8) nr J (zf_Matcher_narrow_l0 x2 a i o (o + 8) nr J n) j g) _
  unfold zf_Matcher_narrow_l0_b
  refine zh_ite (fun hj => ?_) fun _ => zh_ret ⟨f1, fun b b0 b1 hb => f2 b b0 (by omega) hb⟩
  rw [zi_w_id (x := j + 1) (by omega) (by omega), zi_w_id (x := o + j) (by omega) (by omega), zi_w_id (x := o + 8 + j) (by omega) (by omega), f1 (o + j) (by omega)]
  by_cases hb : zb x2 j.toNat = true
  · rw [zb_bit1 j0 (by omega) hb, if_neg (show ¬ (1 : Int) = 0 by decide), zl_ci (a := o + j) (by omega) (by omega), zl_ci a0 (by omega)]
    have step : zh_ok (zf_Matcher_narrow_l0 x2 a i o (o + 8) nr J n (j + 1) (zv_up g (o + 8 + j) (ym_nw nr J a i (G (o + j)) j))) _ := k _ hj ⟨fun q hq => by rw [zv_up_n (by omega)]; exact f1 q hq, fun b b0 b1 hb2 => by
      by_cases e : b = j
      · subst e; rw [zv_up_s]
      · rw [zv_up_n (by omega)]; exact f2 b b0 (by omega) hb2⟩
    by_cases hn : zb (nr a) j.toNat = true
    · rw [zb_bit1 j0 (by omega) hn, if_neg (show ¬ (1 : Int) = 0 by decide), zl_ci i0 (by omega)]
      have e : ym_nw nr J a i (G (o + j)) j = zi_and (zi_and (G (o + j)) (zi_xor (zi_shl 1 i) (-1))) (J i) := if_pos hn
      rw [← e]
      refine zh_ite (fun hz => zh_ret ⟨rfl, f1, j, j0, hj, hb, hz⟩) fun hz => ?_
      rw [zl_ci (a := o + 8 + j) (by omega) (by omega)]
      exact step
    · rw [zb_bit0 j0 (by omega) hn, if_pos rfl]
      have e : ym_nw nr J a i (G (o + j)) j = zi_and (G (o + j)) (zi_xor (zi_shl 1 i) (-1)) := if_neg hn
      rw [← e]
      refine zh_ite (fun hz => zh_ret ⟨rfl, f1, j, j0, hj, hb, hz⟩) fun hz => ?_
      rw [zl_ci (a := o + 8 + j) (by omega) (by omega)]
      exact step
  · rw [zb_bit0 j0 (by omega) hb, if_pos rfl]
    exact k g hj ⟨f1, fun b b0 b1 hb2 => f2 b b0 (by
      by_cases e : b = j
      · subst e; exact absurd hb2 hb
      · omega) hb2⟩
theorem ym_nw_b {nr J : Int → Int} {a i v b : Int} {q : Nat} (i0 : 0 ≤ i) (i1 : i < 24) (hq : q < 24) : zb (ym_nw nr J a i v b) q = (zb v q && (!decide (q = i.toNat) && (!zb (nr a) b.toNat || zb (J i) q))) := by
  unfold ym_nw
  by_cases hn : zb (nr a) b.toNat = true
  · rw [if_pos hn, zb_and, zb_clr i0 i1 hq, hn]
    cases zb v q <;> cases decide (q = i.toNat) <;> cases zb (J i) q <;> rfl
  · rw [if_neg hn, zb_clr i0 i1 hq, Bool.eq_false_iff.mpr hn]
    cases zb v q <;> cases decide (q = i.toNat) <;> rfl
theorem ym_nw_24 {nr J : Int → Int} {a i v b : Int} (h : z24 v) : z24 (ym_nw nr J a i v b) := by
  unfold ym_nw
  split
  · exact z24_and (z24_and h)
  · exact z24_and h
theorem ym_besides {x1 : Int} {J : Int → Int} (hJ : ∀ i : Nat, i < 24 → z24 (J i)) : zh_ok (zf_Matcher_besides x1 J) fun s => z24 s ∧ ∀ q, zb s q = true ↔ ∃ r : Nat, r < 24 ∧ zb x1 r = true ∧ zb (J r) q = true := by
  refine zh_bind (Q := fun s => z24 s ∧ ∀ q, zb s q = true ↔ ∃ r : Nat, r < 24 ∧ zb x1 r = true ∧ zb (J r) q = true) (zh_loop (F := fun n i (a : Int) => zf_Matcher_besides_l0 x1 J n a i) (N := 24) (I := fun i a => z24 a ∧ ∀ q, zb a q = true ↔ ∃ r : Nat, (r : Int) < i ∧ zb x1 r = true ∧ zb (J r) q = true) (fun n i a i0 i1 hI k => ?_) 24 0 0 zi_fu (by decide) (by decide) (by decide) (by decide) ⟨z24_0, fun q => ?_⟩) fun o ho => zh_ret ho
  · obtain ⟨h1, h2⟩ := hI
    show zh_ok (zf_Matcher_besides_l0_b x1 J (zf_Matcher_besides_l0 x1 J n) a i) _
    unfold zf_Matcher_besides_l0_b
    refine zh_ite (fun hi => ?_) fun _ => zh_ret ⟨h1, fun q => ?_⟩
    · obtain ⟨m, rfl⟩ : ∃ m : Nat, i = m := ⟨i.toNat, by omega⟩
      rw [zi_w_id (x := (m : Int) + 1) (by omega) (by omega)]
      by_cases hb : zb x1 m = true
      · rw [zb_bit1 (t := x1) (i := (m : Int)) i0 (by omega) hb, if_neg (show ¬ (1 : Int) = 0 by decide), zl_ci i0 (by omega)]
        refine k _ hi ⟨z24_or h1 (hJ m (by omega)), fun q => ?_⟩
        rw [zb_or, Bool.or_eq_true, h2]
        constructor
        · rintro (⟨r, r1, r2⟩ | h)
          · exact ⟨r, by omega, r2⟩
          · exact ⟨m, by omega, hb, h⟩
        · rintro ⟨r, r1, r2, r3⟩
          by_cases e : r = m
          · subst e; exact .inr r3
          · exact .inl ⟨r, by omega, r2, r3⟩
      · rw [zb_bit0 (t := x1) (i := (m : Int)) i0 (by omega) hb, if_pos rfl]
        refine k _ hi ⟨h1, fun q => ?_⟩
        rw [h2]
        constructor
        · rintro ⟨r, r1, r2⟩; exact ⟨r, by omega, r2⟩
        · rintro ⟨r, r1, r2, r3⟩
          refine ⟨r, ?_, r2, r3⟩
          by_cases e : r = m
          · subst e; exact absurd r2 hb
          · omega
    · rw [h2]
      constructor
      · rintro ⟨r, r1, r2⟩; exact ⟨r, by omega, r2⟩
      · rintro ⟨r, r1, r2⟩; exact ⟨r, by omega, r2⟩
  · rw [zb_0]
    exact ⟨fun h => (by cases h), fun ⟨r, h, _⟩ => by omega⟩
theorem ym_agree2 {o x7 v : Int} {G J : Int → Int} (hJ : ∀ i : Nat, i < 24 → z24 (J i)) (o0 : 0 ≤ o) (o1 : o ≤ 64) (hv : z24 v) : zh_ok (zf_Matcher_agree_l2 o x7 G J zi_fu v 0) fun s => z24 s ∧ ∀ q, zb s q = true ↔ zb v q = true ∧ ∀ b : Nat, b < 8 → zb x7 b = true → ∃ r : Nat, r < 24 ∧ zb (G (o + b)) r = true ∧ zb (J r) q = true := by
  refine zh_loop (F := fun n i (a : Int) => zf_Matcher_agree_l2 o x7 G J n a i) (N := 8) (I := fun i a => z24 a ∧ ∀ q, zb a q = true ↔ zb v q = true ∧ ∀ b : Nat, (b : Int) < i → zb x7 b = true → ∃ r : Nat, r < 24 ∧ zb (G (o + b)) r = true ∧ zb (J r) q = true) (fun n i a i0 i1 hI k => ?_) 8 0 v zi_fu (by decide) (by decide) (by decide) (by decide) ⟨hv, fun q => ⟨fun h => ⟨h, fun b hb => by omega⟩, fun h => h.1⟩⟩
  obtain ⟨h1, h2⟩ := hI
  show zh_ok (zf_Matcher_agree_l2_b o x7 G J (zf_Matcher_agree_l2 o x7 G J n) a i) _
  unfold zf_Matcher_agree_l2_b
  refine zh_ite (fun hi => ?_) fun _ => zh_ret ⟨h1, fun q => ?_⟩
  · obtain ⟨m, rfl⟩ : ∃ m : Nat, i = m := ⟨i.toNat, by omega⟩
    rw [zi_w_id (x := (m : Int) + 1) (by omega) (by omega), zi_w_id (x := o + (m : Int)) (by omega) (by omega)]
    by_cases hb : zb x7 m = true
    · rw [zb_bit1 (t := x7) (i := (m : Int)) i0 (by omega) hb, if_neg (show ¬ (1 : Int) = 0 by decide), zl_ci (a := o + (m : Int)) (by omega) (by omega)]
      refine zh_bind (ym_besides hJ) fun s hs => k _ hi ⟨z24_and h1, fun q => ?_⟩
      rw [zb_and, Bool.and_eq_true, h2, hs.2]
      constructor
      · rintro ⟨⟨c1, c2⟩, c3⟩
        refine ⟨c1, fun b hb2 hx => ?_⟩
        by_cases e : b = m
        · subst e; exact c3
        · exact c2 b (by omega) hx
      · rintro ⟨c1, c2⟩
        exact ⟨⟨c1, fun b hb2 hx => c2 b (by omega) hx⟩, c2 m (by omega) hb⟩
    · rw [zb_bit0 (t := x7) (i := (m : Int)) i0 (by omega) hb, if_pos rfl]
      refine k _ hi ⟨h1, fun q => ?_⟩
      rw [h2]
      constructor
      · rintro ⟨c1, c2⟩
        refine ⟨c1, fun b hb2 hx => ?_⟩
        by_cases e : b = m
        · subst e; exact absurd hx hb
        · exact c2 b (by omega) hx
      · rintro ⟨c1, c2⟩
        exact ⟨c1, fun b hb2 hx => c2 b (by omega) hx⟩
  · rw [h2]
    constructor
    · rintro ⟨c1, c2⟩; exact ⟨c1, fun b hb2 hx => c2 b (by omega) hx⟩
    · rintro ⟨c1, c2⟩; exact ⟨c1, fun b hb2 hx => c2 b (by omega) hx⟩
theorem ym_agree20 {o v : Int} {G J : Int → Int} : zh_ok (zf_Matcher_agree_l2 o 0 G J zi_fu v 0) fun s => s = v := by
  refine zh_loop (F := fun n i (a : Int) => zf_Matcher_agree_l2 o 0 G J n a i) (N := 8) (I := fun _ a => a = v) (fun n i a i0 i1 hI k => ?_) 8 0 v zi_fu (by decide) (by decide) (by decide) (by decide) rfl
  show zh_ok (zf_Matcher_agree_l2_b o 0 G J (zf_Matcher_agree_l2 o 0 G J n) a i) _
  unfold zf_Matcher_agree_l2_b
  refine zh_ite (fun hi => ?_) fun _ => zh_ret hI
  rw [zi_w_id (x := i + 1) (by omega) (by omega), zb_bit0 i0 (by omega) (by rw [zb_0]; decide), if_pos rfl]
  exact k _ hi hI
theorem zv_up_id {g : Int → Int} {j : Int} : zv_up g j (g j) = g := by
  funext i
  unfold zv_up
  split
  · rename_i h; rw [h]
  · rfl
theorem ym_agree {K : (Int → Int) → Prop} {x1 x2 : Int} {nr G J : Int → Int} (h1 : 0 ≤ x1) (h2 : x1 ≤ 8) (hJ : ∀ i : Nat, i < 24 → z24 (J i))
    (hz : ∀ g, K g → ∀ j : Nat, j < 8 → zb x2 j = true → z24 (g (8 * x1 + j)))
    (hs : ∀ g (j : Nat) v, K g → j < 8 → zb x2 j = true → z24 v → (∀ q, zb v q = true ↔ zb (g (8 * x1 + j)) q = true ∧ ∀ b : Nat, b < 8 → zb (nr j) b = true → zb x2 b = true → ∃ r : Nat, r < 24 ∧ zb (g (8 * x1 + b)) r = true ∧ zb (J r) q = true) → K (zv_up g (8 * x1 + j) v))
    (hK : K G) : zh_ok (zf_Matcher_agree x1 x2 nr G J) fun o => K o.2 ∧ (o.1 = 1 ∨ (o.1 = 0 ∧ ∃ j : Nat, j < 8 ∧ zb x2 j = true ∧ K (zv_up o.2 (8 * x1 + j) 0))) := by
  unfold zf_Matcher_agree
  rw [zi_w_id (x := x1 * 8) (by omega) (by omega), show x1 * 8 = 8 * x1 from Int.mul_comm _ _]
  obtain ⟨o, eo⟩ : ∃ o, o = 8 * x1 := ⟨_, rfl⟩
  rw [← eo] at hz hs ⊢
  have o0 : 0 ≤ o := by omega
  have o1 : o ≤ 64 := by omega
  refine zh_sum (Q := fun q => match q with
    | .inl g => K g
    | .inr w => w.1 = 0 ∧ K w.2 ∧ ∃ j : Nat, j < 8 ∧ zb x2 j = true ∧ K (zv_up w.2 (o + j) 0)) (zh_loop (F := fun n i (a : Int × (Int → Int)) => zf_Matcher_agree_l0 x2 o nr J n a.1 i a.2) (N := 192) (I := fun _ a => K a.2) (fun n i a i0 i1 hI k => ?_) 192 0 (1, G) zi_fu (by decide) (by decide) (by decide) (by decide) hK) (fun g hg => zh_ret ⟨hg, .inl rfl⟩) fun w hw => zh_ret ⟨hw.2.1, .inr ⟨hw.1, hw.2.2⟩⟩
  show zh_ok (zf_Matcher_agree_l0_b x2 o nr J (zf_Matcher_agree_l0 x2 o nr J n) a.1 i a.2) _
  unfold zf_Matcher_agree_l0_b
  refine zh_ite (fun hi => ?_) fun _ => zh_ret hI
  rw [zi_w_id (x := i + 1) (by omega) (by omega)]
  refine zh_ite (fun _ => zh_ret hI) fun _ => zh_sum (Q := fun q => match q with
    | .inl a => K a.2
    | .inr w => w.1 = 0 ∧ K w.2 ∧ ∃ j : Nat, j < 8 ∧ zb x2 j = true ∧ K (zv_up w.2 (o + j) 0)) (zh_loop (F := fun n j (a : Int × (Int → Int)) => zf_Matcher_agree_l1 x2 o nr J n a.1 j a.2) (N := 8) (I := fun _ a => K a.2) (fun n j a j0 j1 hI k2 => ?_) 8 0 (0, a.2) zi_fu (by decide) (by decide) (by decide) (by decide) hI) (fun b hb => k (_, _) hi hb) fun b hb => zh_ret hb
  obtain ⟨c, g⟩ := a
  have hg : K g := hI
  show zh_ok (zf_Matcher_agree_l1_b x2 o nr J (zf_Matcher_agree_l1 x2 o nr J n) c j g) _
  unfold zf_Matcher_agree_l1_b
  refine zh_ite (fun hj => ?_) fun _ => zh_ret hI
  obtain ⟨m, rfl⟩ : ∃ m : Nat, j = m := ⟨j.toNat, by omega⟩
  rw [zi_w_id (x := (m : Int) + 1) (by omega) (by omega), zi_w_id (x := o + (m : Int)) (by omega) (by omega)]
  by_cases hb : zb x2 m = true
  · rw [zb_bit1 (t := x2) (i := (m : Int)) j0 (by omega) hb, if_neg (show ¬ (1 : Int) = 0 by decide), zl_ci j0 (by omega), zl_ci (a := o + (m : Int)) (by omega) (by omega)]
    refine zh_bind (ym_agree2 hJ o0 o1 (hz g hg m (by omega) hb)) fun s hs2 => ?_
    have hK2 : K (zv_up g (o + (m : Int)) s) := hs g m s hg (by omega) hb hs2.1 fun q => by
      rw [hs2.2]
      constructor
      · rintro ⟨c1, c2⟩
        exact ⟨c1, fun b b1 b2 b3 => c2 b b1 (by rw [zb_and, b2, b3]; rfl)⟩
      · rintro ⟨c1, c2⟩
        refine ⟨c1, fun b b1 b2 => ?_⟩
        rw [zb_and, Bool.and_eq_true] at b2
        exact c2 b b1 b2.1 b2.2
    have kk : ∀ c2, zh_ok (zf_Matcher_agree_l1 x2 o nr J n c2 ((m : Int) + 1) (zv_up g (o + (m : Int)) s)) _ := fun c2 => k2 (c2, _) hj hK2
    refine zh_ite (fun _ => zh_ite (fun _ => zh_ite (fun _ => kk _) fun _ => kk _) fun _ => kk _) fun _ => zh_ite (fun hz0 => zh_ret ⟨rfl, hg, m, by omega, hb, ?_⟩) fun _ => zh_ite (fun _ => zh_ite (fun _ => kk _) fun _ => kk _) fun _ => kk _
    rw [← hz0]; exact hK2
  · rw [zb_bit0 (t := x2) (i := (m : Int)) j0 (by omega) hb, if_pos rfl, zl_ci (a := o + (m : Int)) (by omega) (by omega)]
    refine zh_bind ym_agree20 fun s hs2 => ?_
    rw [hs2, zv_up_id]
    have kk : ∀ c2, zh_ok (zf_Matcher_agree_l1 x2 o nr J n c2 ((m : Int) + 1) g) _ := fun c2 => k2 (c2, _) hj hg
    exact zh_ite (fun _ => zh_ite (fun _ => kk _) fun _ => kk _) fun _ => kk _
/-- the rank of a name: fewest stars first, then most lines -/
def ym_rk (o : Int) (G nr : Int → Int) (b : Int) : Int := 8 * zs_sum (G (o + b)) 24 - zs_sum (nr b) 24
theorem ym_tightest {x1 x2 : Int} {G nr : Int → Int} (h1 : 0 ≤ x1) (h2 : x1 < 8) (hz : ∀ j : Nat, j < 8 → zb x2 j = true → z24 (G (8 * x1 + j))) (hn : ∀ j : Nat, j < 8 → z24 (nr j)) (hex : ∃ j : Nat, j < 8 ∧ zb x2 j = true) :
    zh_ok (zf_Matcher_tightest x1 x2 G nr) fun r => (0 ≤ r ∧ r < 8) ∧ zb x2 r.toNat = true ∧ ∀ j : Nat, j < 8 → zb x2 j = true → ym_rk (8 * x1) G nr r ≤ ym_rk (8 * x1) G nr j := by
  obtain ⟨o, eo⟩ : ∃ o, o = 8 * x1 := ⟨_, rfl⟩
  rw [← eo] at hz ⊢
  refine zh_bind (Q := fun r => (0 ≤ r ∧ r < 8) ∧ zb x2 r.toNat = true ∧ ∀ j : Nat, j < 8 → zb x2 j = true → ym_rk o G nr r ≤ ym_rk o G nr j) (zh_loop (F := fun n i (a : Int × Int) => zf_Matcher_tightest_l0 x1 x2 G nr n a.1 a.2 i) (N := 8) (I := fun i a => (a.2 = 200 ∧ ∀ j : Nat, (j : Int) < i → ¬ zb x2 j = true) ∨ ((0 ≤ a.1 ∧ a.1 < 8) ∧ zb x2 a.1.toNat = true ∧ a.2 = ym_rk o G nr a.1 ∧ ∀ j : Nat, (j : Int) < i → zb x2 j = true → ym_rk o G nr a.1 ≤ ym_rk o G nr j)) (fun n i a i0 i1 hI k => ?_) 8 0 (0, 200) zi_fu (by decide) (by decide) (by decide) (by decide) (.inl ⟨rfl, fun j hj => by omega⟩)) fun r hr => zh_ret hr
  show zh_ok (zf_Matcher_tightest_l0_b x1 x2 G nr (zf_Matcher_tightest_l0 x1 x2 G nr n) a.1 a.2 i) _
  unfold zf_Matcher_tightest_l0_b
  refine zh_ite (fun hi => ?_) fun _ => ?_
  · obtain ⟨m, rfl⟩ : ∃ m : Nat, i = m := ⟨i.toNat, by omega⟩
    rw [zi_w_id (x := (m : Int) + 1) (by omega) (by omega), zi_w_id (x := x1 * 8) (by omega) (by omega), show x1 * 8 = o by omega, zi_w_id (x := o + (m : Int)) (by omega) (by omega)]
    by_cases hb : zb x2 m = true
    · rw [zb_bit1 (t := x2) (i := (m : Int)) i0 (by omega) hb, if_neg (show ¬ (1 : Int) = 0 by decide), zl_ci (a := o + (m : Int)) (by omega) (by omega), ze_bc (hz m (by omega) hb), zl_b, zl_ci i0 (by omega), ze_bc (hn m (by omega)), zl_b]
      have s1 := zs_sum_in (t := G (o + (m : Int))) 24
      have s2 := zs_sum_in (t := nr (m : Int)) 24
      have er : ym_rk o G nr m = 8 * zs_sum (G (o + (m : Int))) 24 - zs_sum (nr (m : Int)) 24 := rfl
      rw [zi_w_id (x := 8 * zs_sum (G (o + (m : Int))) 24) (by omega) (by omega), zi_w_id (x := 8 * zs_sum (G (o + (m : Int))) 24 - zs_sum (nr (m : Int)) 24) (by omega) (by omega), ← er]
      have er2 : ym_rk o G nr m ≤ 192 := by omega
      refine zh_ite (fun hlt => k (_, _) hi (.inr ⟨⟨i0, hi⟩, hb, rfl, fun j hj hj2 => ?_⟩)) fun hge => k a hi ?_
      · by_cases e : j = m
        · subst e; exact Int.le_refl _
        · rcases hI with ⟨q1, q2⟩ | ⟨q1, q2, q3, q4⟩
          · exact absurd hj2 (q2 j (by omega))
          · have := q4 j (by omega) hj2
            show ym_rk o G nr m ≤ _
            omega
      · rcases hI with ⟨q1, q2⟩ | ⟨q1, q2, q3, q4⟩
        · omega
        · refine .inr ⟨q1, q2, q3, fun j hj hj2 => ?_⟩
          by_cases e : j = m
          · subst e; omega
          · exact q4 j (by omega) hj2
    · rw [zb_bit0 (t := x2) (i := (m : Int)) i0 (by omega) hb, if_pos rfl]
      refine k a hi ?_
      rcases hI with ⟨q1, q2⟩ | ⟨q1, q2, q3, q4⟩
      · refine .inl ⟨q1, fun j hj => ?_⟩
        by_cases e : j = m
        · subst e; exact hb
        · exact q2 j (by omega)
      · refine .inr ⟨q1, q2, q3, fun j hj hj2 => ?_⟩
        by_cases e : j = m
        · subst e; exact absurd hj2 hb
        · exact q4 j (by omega) hj2
  · rcases hI with ⟨q1, q2⟩ | ⟨q1, q2, q3, q4⟩
    · obtain ⟨j, j1, j2⟩ := hex
      exact absurd j2 (q2 j (by omega))
    · exact zh_ret ⟨q1, q2, fun j hj => q4 j (by omega)⟩
/-! what a search begins with -/
theorem ym_withLegs {z x2 : Int} {J : Int → Int} (hJ : ∀ i : Nat, i < 24 → z24 (J i)) : zh_ok (zf_Matcher_withLegs z x2 J) fun s => z24 s ∧ ∀ q, zb s q = (decide (q < 24) && (zb z q && decide (x2 ≤ zs_sum (zi_and (J q) z) 24))) := by
  refine zh_bind (Q := fun s => z24 s ∧ ∀ q, zb s q = (decide (q < 24) && (zb z q && decide (x2 ≤ zs_sum (zi_and (J q) z) 24)))) (zh_loop (F := fun n i (a : Int) => zf_Matcher_withLegs_l0 z x2 J n a i) (N := 24) (I := fun i a => z24 a ∧ ∀ q, zb a q = (decide (q < i.toNat) && (zb z q && decide (x2 ≤ zs_sum (zi_and (J q) z) 24)))) (fun n i a i0 i1 hI k => ?_) 24 0 0 zi_fu (by decide) (by decide) (by decide) (by decide) ⟨z24_0, fun q => by rw [zb_0, decide_eq_false (show ¬ q < Int.toNat 0 from Nat.not_lt_zero q), Bool.false_and]⟩) fun o ho => zh_ret ho
  obtain ⟨h1, h2⟩ := hI
  show zh_ok (zf_Matcher_withLegs_l0_b z x2 J (zf_Matcher_withLegs_l0 z x2 J n) a i) _
  unfold zf_Matcher_withLegs_l0_b
  obtain ⟨m, rfl⟩ : ∃ m : Nat, i = m := ⟨i.toNat, by omega⟩
  have h2 : ∀ q, zb a q = (decide (q < m) && (zb z q && decide (x2 ≤ zs_sum (zi_and (J q) z) 24))) := h2
  refine zh_ite (fun hi => ?_) fun hi => zh_ret ⟨h1, fun q => by rw [h2, show m = 24 by omega]⟩
  have hm : m < 24 := by omega
  have grow := zb_grow (s := a) (i := (m : Int)) (n := m) (P := fun q => (zb z q && decide (x2 ≤ zs_sum (zi_and (J q) z) 24))) rfl hm h2
  have e1 : ((m : Int) + 1).toNat = m + 1 := by omega
  rw [zi_w_id (x := (m : Int) + 1) (by omega) (by omega)]
  have kk : ∀ a', z24 a' → (∀ q, zb a' q = (decide (q < m + 1) && (zb z q && decide (x2 ≤ zs_sum (zi_and (J q) z) 24)))) → zh_ok (zf_Matcher_withLegs_l0 z x2 J n a' ((m : Int) + 1)) _ := fun a' q1 q2 => k a' hi ⟨q1, by rw [e1]; exact q2⟩
  by_cases hb : zb z m = true
  · rw [zb_bit1 (t := z) (i := (m : Int)) i0 (by omega) hb, if_neg (show ¬ (1 : Int) = 0 by decide), zl_ci i0 (by omega), ze_bc (z24_and (hJ m hm)), zl_b]
    refine zh_ite (fun hlt => ?_) fun hge => ?_
    · rw [if_neg (by show ¬ (zb z m && decide (x2 ≤ zs_sum (zi_and (J m) z) 24)) = true; rw [decide_eq_false (by omega), Bool.and_false]; decide)] at grow
      exact kk _ h1 grow
    · rw [if_pos (by show (zb z m && decide (x2 ≤ zs_sum (zi_and (J m) z) 24)) = true; rw [decide_eq_true (by omega), hb]; rfl)] at grow
      exact kk _ (z24_or h1 (z24_shl i0 hi)) grow
  · rw [zb_bit0 (t := z) (i := (m : Int)) i0 (by omega) hb, if_pos rfl]
    rw [if_neg (by show ¬ (zb z m && decide (x2 ≤ zs_sum (zi_and (J m) z) 24)) = true; rw [Bool.eq_false_iff.mpr hb, Bool.false_and]; decide)] at grow
    exact kk _ h1 grow
def ym_tw (z : Int) (J : Int → Int) (p q : Nat) : Prop := zb z p = true ∧ zb z q = true ∧ ∀ x : Nat, x < 24 → zb z x = true → x ≠ p → x ≠ q → zb (J p) x = zb (J q) x
theorem ym_tw_s {z : Int} {J : Int → Int} {p q : Nat} (h : ym_tw z J p q) : ym_tw z J q p := ⟨h.2.1, h.1, fun x x1 x2 x3 x4 => (h.2.2 x x1 x2 x4 x3).symm⟩
theorem ym_tc {z : Int} {J : Int → Int} {i j : Nat} (hi : i < 24) (hj : j < 24) (hJ : ∀ i : Nat, i < 24 → z24 (J i)) : zi_and (zi_and (zi_xor (J i) (J j)) z) (zi_xor (zi_or (zi_shl 1 i) (zi_shl 1 j)) (-1)) = 0 ↔ ∀ x : Nat, x < 24 → zb z x = true → x ≠ i → x ≠ j → zb (J i) x = zb (J j) x := by
  rw [z24_z (z24_and (z24_and (z24_xor (hJ i hi) (hJ j hj))))]
  have e : ∀ x : Nat, x < 24 → zb (zi_and (zi_and (zi_xor (J i) (J j)) z) (zi_xor (zi_or (zi_shl 1 i) (zi_shl 1 j)) (-1))) x = (((zb (J i) x ^^ zb (J j) x) && zb z x) && !(decide (x = i) || decide (x = j))) := fun x hx => by
    rw [zb_and, zb_and, zb_xor, zb_not (by omega), zb_or, zb_shl (by omega) (by omega), zb_shl (by omega) (by omega)]
    rfl
  constructor
  · intro h x hx zx xi xj
    have q := h x hx
    rw [e x hx, zx, decide_eq_false xi, decide_eq_false xj] at q
    cases a : zb (J i) x <;> cases b : zb (J j) x <;> rw [a, b] at q <;> first | rfl | exact absurd q (by decide)
  · intro h x hx
    rw [e x hx]
    by_cases zx : zb z x = true
    · by_cases xi : x = i
      · rw [decide_eq_true xi, Bool.true_or, Bool.not_true, Bool.and_false]
      · by_cases xj : x = j
        · rw [decide_eq_true xj, Bool.or_true, Bool.not_true, Bool.and_false]
        · rw [h x hx zx xi xj, Bool.xor_self, Bool.false_and, Bool.false_and]
    · rw [Bool.eq_false_iff.mpr zx, Bool.and_false, Bool.false_and]
