/-! tale: alike on both sides. -/
section YTE
variable {T M : Int → Int}
theorem ze_fill8_l0 {v : Int} : ∀ (d : Nat) (j : Int) (g : Int → Int) (n : Nat), j + d = 8 → 0 ≤ j → d < n → ∃ g2, zf_Arrays_fill_8_l0 v 8 n j g = some g2 ∧ (∀ i, j ≤ i → i < 8 → g2 i = v) ∧ ∀ i, i < j → g2 i = g i := by
  intro d
  induction d with
  | zero =>
    intro j g n e _ hn
    obtain ⟨n, rfl⟩ : ∃ q, n = q + 1 := ⟨n - 1, by omega⟩
    refine ⟨g, ?_, fun i _ _ => by omega, fun _ _ => rfl⟩
    show zf_Arrays_fill_8_l0_b v 8 (zf_Arrays_fill_8_l0 v 8 n) j g = _
    unfold zf_Arrays_fill_8_l0_b
    rw [if_neg (by omega)]
  | succ d ih =>
    intro j g n e j0 hn
    obtain ⟨n, rfl⟩ : ∃ q, n = q + 1 := ⟨n - 1, by omega⟩
    obtain ⟨g2, e1, a, b⟩ := ih (j + 1) (zv_up g j v) n (by omega) (by omega) (by omega)
    refine ⟨g2, ?_, fun i i1 i2 => ?_, fun i i1 => ?_⟩
    · show zf_Arrays_fill_8_l0_b v 8 (zf_Arrays_fill_8_l0 v 8 n) j g = _
      unfold zf_Arrays_fill_8_l0_b
      rw [if_pos (by omega), zl_ci j0 (by omega), zi_w_id (x := j + 1) (by omega) (by omega), e1]
    · by_cases q : i = j
      · subst q
        rw [b i (by omega), zv_up_s]
      · exact a i (by omega) i2
    · rw [b i (by omega), zv_up_n (by omega)]
theorem ze_fill8 {v : Int} {g : Int → Int} : ∃ g2, zf_Arrays_fill_8 v g = some g2 ∧ ∀ i, 0 ≤ i → i < 8 → g2 i = v := by
  obtain ⟨g2, e1, a, -⟩ := ze_fill8_l0 (v := v) 8 0 g zi_fu (by decide) (by decide) (by decide)
  refine ⟨g2, ?_, a⟩
  unfold zf_Arrays_fill_8
  rw [e1]; rfl
theorem yk_tl_0 {nr fr to : Int → Int} (h : ∀ i, 0 ≤ i → i < 8 → nr i = 0) : yk_tl 0 0 nr fr to := by
  refine ⟨⟨by decide, by decide⟩, fun i _ _ => by omega, fun i j _ _ _ => by omega, z24_0, fun b => ?_, fun a a0 a1 => ?_⟩
  · rw [zb_0]
    exact ⟨fun h => (by cases h), fun ⟨i, _, _, _⟩ => (by omega)⟩
  · rw [h a a0 a1]
    refine ⟨z24_0, fun b => ?_⟩
    rw [zb_0]
    exact ⟨fun h => (by cases h), fun ⟨i, _, _, _⟩ => (by omega)⟩
theorem yt_cp_l {n nm : Int} {nr fr to : Int → Int} (h : yk_tl n nm nr fr to) : ∀ (d : Nat) (j s : Int) (g3 g4 : Int → Int) (f : Nat), j + d = n → 0 ≤ j → d < f → z24 s → (∀ b : Nat, zb s b = true ↔ ∃ i, 0 ≤ i ∧ i < j ∧ (fr i = b ∨ to i = b)) → (∀ i, 0 ≤ i → i < j → g3 i = fr i ∧ g4 i = to i) →
    ∃ g3' g4', zf_M_tale_l1 n fr to f j s g3 g4 = some (nm, g3', g4') ∧ ∀ i, 0 ≤ i → i < n → g3' i = fr i ∧ g4' i = to i := by
  obtain ⟨⟨n0, n1⟩, hi, -, hz, hb, -⟩ := id h
  intro d
  induction d with
  | zero =>
    intro j s g3 g4 f e j0 hf sz sb gg
    obtain ⟨f, rfl⟩ : ∃ q, f = q + 1 := ⟨f - 1, by omega⟩
    obtain rfl : j = n := by omega
    have es : s = nm := z24_ext sz hz fun b _ => by
      rw [Bool.eq_iff_iff, sb, hb]
    refine ⟨g3, g4, ?_, gg⟩
    show zf_M_tale_l1_b j fr to (zf_M_tale_l1 j fr to f) j s g3 g4 = _
    unfold zf_M_tale_l1_b
    rw [if_neg (by omega), es]
  | succ d ih =>
    intro j s g3 g4 f e j0 hf sz sb gg
    obtain ⟨f, rfl⟩ : ∃ q, f = q + 1 := ⟨f - 1, by omega⟩
    obtain ⟨⟨a0, a1⟩, ⟨b0, b1⟩, -⟩ := hi j j0 (by omega)
    obtain ⟨g3', g4', e1, e2⟩ := ih (j + 1) (zi_or (zi_or s (zi_shl 1 (fr j))) (zi_shl 1 (to j))) (zv_up g3 j (fr j)) (zv_up g4 j (to j)) f (by omega) (by omega) (by omega) (z24_or (z24_or sz (z24_shl a0 (by omega))) (z24_shl b0 (by omega))) (fun b => by
      rw [zb_or, zb_or, zb_shl a0 (by omega), zb_shl b0 (by omega), Bool.or_eq_true, Bool.or_eq_true, decide_eq_true_eq, decide_eq_true_eq, sb]
      constructor
      · rintro ((⟨i, i0, i1, q⟩ | q) | q)
        · exact ⟨i, i0, by omega, q⟩
        · exact ⟨j, j0, by omega, by omega⟩
        · exact ⟨j, j0, by omega, by omega⟩
      · rintro ⟨i, i0, i1, q⟩
        by_cases ei : i = j
        · subst ei
          rcases q with q | q
          · exact .inl (.inr (by omega))
          · exact .inr (by omega)
        · exact .inl (.inl ⟨i, i0, by omega, q⟩)) (fun i i0 i1 => by
      by_cases ei : i = j
      · subst ei
        rw [zv_up_s, zv_up_s]
        exact ⟨rfl, rfl⟩
      · rw [zv_up_n ei, zv_up_n ei]
        exact gg i i0 (by omega))
    refine ⟨g3', g4', ?_, e2⟩
    show zf_M_tale_l1_b n fr to (zf_M_tale_l1 n fr to f) j s g3 g4 = _
    unfold zf_M_tale_l1_b
    rw [if_pos (by omega), zl_ci j0 (by omega), zi_w_id (x := j + 1) (by omega) (by omega), zv_up_s, zv_up_s, e1]
theorem yk_tl_cg {n nm : Int} {nr fr to fr2 to2 : Int → Int} (h : yk_tl n nm nr fr to) (e : ∀ i, 0 ≤ i → i < n → fr2 i = fr i ∧ to2 i = to i) : yk_tl n nm nr fr2 to2 := by
  obtain ⟨hn, hi, hd, hz, hb, hr⟩ := h
  refine ⟨hn, fun i i0 i1 => ?_, fun i j i0 ij j1 => ?_, hz, fun b => ?_, fun a a0 a1 => ⟨(hr a a0 a1).1, fun b => ?_⟩⟩
  · rw [(e i i0 i1).1, (e i i0 i1).2]; exact hi i i0 i1
  · rw [(e i i0 (by omega)).1, (e i i0 (by omega)).2, (e j (by omega) j1).1, (e j (by omega) j1).2]
    exact hd i j i0 ij j1
  · rw [hb]
    constructor
    · rintro ⟨i, i0, i1, q⟩; exact ⟨i, i0, i1, by rw [(e i i0 i1).1, (e i i0 i1).2]; exact q⟩
    · rintro ⟨i, i0, i1, q⟩; exact ⟨i, i0, i1, by rw [(e i i0 i1).1, (e i i0 i1).2] at q; exact q⟩
  · rw [(hr a a0 a1).2]
    constructor
    · rintro ⟨i, i0, i1, q⟩; exact ⟨i, i0, i1, by rw [(e i i0 i1).1, (e i i0 i1).2]; exact q⟩
    · rintro ⟨i, i0, i1, q⟩; exact ⟨i, i0, i1, by rw [(e i i0 i1).1, (e i i0 i1).2] at q; exact q⟩
theorem yo_tale {x n n2 f2 f3 p0 l0 nl flt tl ni : Int} {g1 s1 s2 fr to : Int → Int} (p : yk_tape n n2 T M) :
    ∃ r n' n2' a b c i j p0' l0' nl' flt' tl' ni' s1' s2' fr' to', zf_X_tale x n f2 f3 T g1 = some (r, n', a, b, c, i, j) ∧ zf_M_tale x n2 p0 l0 nl flt tl ni M s1 s2 fr to = some (r, n2', p0', l0', nl', flt', tl', ni', s1', s2', fr', to') ∧ yk_tape n' n2' T M ∧
      ((i = 2 ∧ j = 5 ∧ tl' = tl ∧ ni' = ni ∧ fr' = fr ∧ to' = to) ∨ (i = 5 ∧ j = 2 ∧ tl' = a ∧ ni' = b ∧ yk_tl a b c fr' to')) := by
  obtain ⟨rfl, n0, n1, hT⟩ := id p
  unfold zf_X_tale zf_M_tale
  rw [ze_X_isWithin, ze_M_in, zl_b, zl_b]
  by_cases q : zs_in x 1 60 = 0
  · rw [if_pos q, if_pos q]
    exact ⟨-1, n2, n2, f2, f3, g1, 2, 5, p0, l0, nl, flt, tl, ni, s1, s2, fr, to, rfl, rfl, p, .inl ⟨rfl, rfl, rfl, rfl, rfl, rfl⟩⟩
  rw [if_neg q, if_neg q]
  obtain ⟨x1, x2⟩ := zs_in_ne q
  unfold zf_Tape_take
  by_cases c : n2 < x
  · rw [if_pos c, if_pos c, zl_b, if_pos rfl]
    exact ⟨-1, n2, n2, f2, f3, g1, 2, 5, p0, l0, nl, flt, tl, ni, s1, s2, fr, to, rfl, rfl, p, .inl ⟨rfl, rfl, rfl, rfl, rfl, rfl⟩⟩
  rw [if_neg c, if_neg c, zl_b, if_neg (show ¬ (1 : Int) = 0 by decide)]
  have pp : yk_tape 0 0 T M := ⟨rfl, by decide, by decide, hT⟩
  obtain ⟨nr0, ef, hz⟩ := ze_fill8 (v := 0) (g := g1)
  obtain ⟨r, a, b, cc, ok, p', nn, flt', s1', s2', e1, e2, e3⟩ := yt_read hT x1 x2 60 0 0 0 flt nr0 s1 s2 zi_fu zi_fu (by omega) (by decide) (by omega) (by decide) (by decide) (yk_tl_0 hz)
  unfold zf_Tale_read_220
  rw [ef, zl_b]
  have e1' : ((zf_Tale_read_220_l0 x T zi_fu 0 0 0 nr0).bind fun q22 => Sum.elim (fun e23 => ((zf_X_faultAt 1 e23.1).bind fun r24 => (some (r24, e23.2.1, e23.2.2.1, e23.2.2.2)))) (fun w25 => some w25) q22) = some (r, a, b, cc) := e1
  rw [e1', zl_b]
  have e2' : ∀ {γ : Type} (K : Int × Int × Int × Int × (Int → Int) × (Int → Int) → Option γ), ((zf_M_readsTaleLine 0 x 0 flt M s1 s2).bind fun r4 => (zf_M_tale_l0 x M zi_fu r4.1 r4.2.1 r4.2.2.1 r4.2.2.2.1 r4.2.2.2.2.1 r4.2.2.2.2.2).bind K) = K (ok, p', nn, flt', s1', s2') := fun K => by
    revert e2
    generalize zf_M_readsTaleLine 0 x 0 flt M s1 s2 = z
    intro e2
    cases z with
    | none => cases e2
    | some z =>
      rw [zl_b] at e2 ⊢
      rw [e2, zl_b]
  rw [e2']
  dsimp only
  rcases e3 with ⟨eo, er, hr⟩ | ⟨eo, er, ea, hr, ht⟩
  · rw [if_neg (show ¬ 0 < r by omega), if_pos eo]
    exact ⟨r, 0, 0, a, b, cc, 2, 5, p', x, nn, flt', tl, ni, s1', s2', fr, to, rfl, by rw [er], pp, .inl ⟨rfl, rfl, rfl, rfl, rfl, rfl⟩⟩
  · rw [if_pos hr, if_neg (show ¬ ok = 0 by omega)]
    rw [ea] at ht
    have hn := ht.1
    have hd0 : (nn.toNat : Int) = nn := by omega
    have hd1 : nn.toNat < zi_fu := Nat.lt_of_le_of_lt (show nn.toNat ≤ 12 by omega) (by decide)
    obtain ⟨g3', g4', e4, e5⟩ := yt_cp_l ht nn.toNat 0 0 fr to zi_fu (by omega) (by decide) hd1 z24_0 (fun b => by
      rw [zb_0]
      exact ⟨fun h => (by cases h), fun ⟨i, _, _, _⟩ => (by omega)⟩) (fun i _ _ => by omega)
    rw [e4, zl_b]
    exact ⟨r, 0, 0, a, b, cc, 5, 2, p', x, nn, flt', nn, b, s1', s2', g3', g4', rfl, by rw [er], pp, .inr ⟨rfl, rfl, ea.symm, rfl, by rw [ea]; exact yk_tl_cg ht e5⟩⟩
end YTE
