/-! Codes of a law as they are written: what is known of them while some jumps still wait. -/
def zp_pend (w : Int → Int) : Nat → Int
  | 0 => 0
  | i + 1 => zp_pend w i + (if (2 ≤ w i / 1048576 ∧ w i / 1048576 ≤ 6) ∨ w i / 1048576 = 10 then 1 else 0)
def zp_pn (w : Int → Int) (i : Int) : Int := zp_pend w i.toNat
theorem zp_pend_cg {w w' : Int → Int} : ∀ {i : Nat}, (∀ j : Int, 0 ≤ j → j < i → w' j = w j) → zp_pend w' i = zp_pend w i
  | 0, _ => rfl
  | i + 1, h => by
    unfold zp_pend
    rw [zp_pend_cg (i := i) (fun j h1 h2 => h j h1 (by omega)), h i (by omega) (by omega)]
theorem zp_pend_st {w : Int → Int} {b : Nat} : zp_pend w b ≤ zp_pend w (b + 1) := by
  have e2 : zp_pend w (b + 1) = zp_pend w b + (if (2 ≤ w b / 1048576 ∧ w b / 1048576 ≤ 6) ∨ w b / 1048576 = 10 then 1 else 0) := rfl
  rw [e2]
  split <;> omega
theorem zp_pend_le {w : Int → Int} {a b : Nat} (h : a ≤ b) : zp_pend w a ≤ zp_pend w b := by
  induction b with
  | zero =>
    have : a = 0 := by omega
    rw [this]; exact Int.le_refl _
  | succ b ih =>
    by_cases e : a = b + 1
    · rw [e]; exact Int.le_refl _
    · exact Int.le_trans (ih (by omega)) zp_pend_st
theorem zp_pn_cg {w w' : Int → Int} {i : Int} (h : ∀ j : Int, 0 ≤ j → j < i → w' j = w j) : zp_pn w' i = zp_pn w i := by
  unfold zp_pn
  exact zp_pend_cg fun j h1 h2 => h j h1 (by omega)
theorem zp_pn_le {w : Int → Int} {a b : Int} (h : a ≤ b) : zp_pn w a ≤ zp_pn w b := zp_pend_le (by omega)
theorem zp_pn_0 {w : Int → Int} : zp_pn w 0 = 0 := rfl
theorem zp_pn_nn {w : Int → Int} {a : Int} : 0 ≤ zp_pn w a := by
  have : zp_pend w 0 ≤ zp_pend w a.toNat := zp_pend_le (Nat.zero_le _)
  exact this
theorem zp_pn_s {w : Int → Int} {i : Int} (h : 0 ≤ i) : zp_pn w (i + 1) = zp_pn w i + (if (2 ≤ w i / 1048576 ∧ w i / 1048576 ≤ 6) ∨ w i / 1048576 = 10 then 1 else 0) := by
  unfold zp_pn
  have e : (i + 1).toNat = i.toNat + 1 := by omega
  have e2 : ((i.toNat : Nat) : Int) = i := by omega
  rw [e]
  show zp_pend w i.toNat + _ = _
  rw [e2]
theorem zp_pn_up {w : Int → Int} {i j v : Int} (h : i ≤ j) : zp_pn (zn_up w j v) i = zp_pn w i := zp_pn_cg fun k _ h2 => zn_up_n (by omega)
def zp_s (e0 : Nat) (D said w : Int → Int) (pl len cm wt d : Int) : Prop :=
  (0 ≤ cm ∧ 0 ≤ wt ∧ wt ≤ pl ∧ pl ≤ len ∧ len ≤ 200 ∧ cm + zp_pn w wt + e0 ≤ pl ∧ D cm = d ∧ 0 ≤ d) ∧ (∀ k, 0 ≤ k → k < cm → zp_q D said w cm wt k) ∧
  ∀ j, 0 ≤ j → j < wt → 0 ≤ w j ∧ (w j / 1048576 = 11 ∨ w j / 1048576 = 12 → w j % 1048576 < cm ∧ (said (w j % 1048576) / 1048576 = 11 ∨ said (w j % 1048576) / 1048576 = 12))
/-- a code is noted -/
theorem zp_note {e0 : Nat} {D said w : Int → Int} {pl len cm wt d pl2 op v d' : Int} (h : zp_s e0 D said w pl len cm wt d) (hop : 0 ≤ op ∧ op ≤ 14) (hv : 0 ≤ v ∧ v < 1048576) (hd : 0 ≤ d') (hb : cm + 1 + zp_pn w wt + e0 ≤ pl2 ∧ wt ≤ pl2 ∧ pl2 ≤ len)
    (hc : (op = 0 ∧ d' ≤ d + 1) ∨ (op = 1 ∧ v ≤ 12 ∧ d' ≤ d + 1) ∨ (2 ≤ op ∧ op ≤ 9 ∧ 2 ≤ d ∧ d' ≤ d - 1) ∨ (op = 10 ∧ 1 ≤ d ∧ d' ≤ d)) : zp_s e0 (zn_up D (cm + 1) d') (zn_up said cm (1048576 * op + v)) w pl2 len (cm + 1) wt d' := by
  obtain ⟨⟨h1, h2, h3, h4, h5, h6, h7, h8⟩, h9, h10⟩ := h
  have e1 : (1048576 * op + v) / 1048576 = op := by omega
  have e2 : (1048576 * op + v) % 1048576 = v := by omega
  refine ⟨⟨by omega, h2, hb.2.1, hb.2.2, h5, hb.1, zn_up_s, hd⟩, fun k k1 k2 => ?_, fun j j1 j2 => ?_⟩
  · by_cases e : k = cm
    · subst e
      unfold zp_q
      rw [zn_up_s, e1, e2, zn_up_s, zn_up_n (show k ≠ k + 1 by omega), h7]
      refine ⟨by omega, h8, ?_⟩
      rcases hc with hc | hc | hc | hc
      · exact Or.inl hc
      · exact Or.inr (Or.inl hc)
      · exact Or.inr (Or.inr (Or.inl hc))
      · exact Or.inr (Or.inr (Or.inr (Or.inl hc)))
    · obtain ⟨q1, q2, q3⟩ := h9 k k1 (by omega)
      unfold zp_q
      rw [zn_up_n e, zn_up_n (show k ≠ cm + 1 by omega), zn_up_n (show k + 1 ≠ cm + 1 by omega)]
      refine ⟨q1, q2, ?_⟩
      rcases q3 with q3 | q3 | q3 | q3 | ⟨q3, q4, q5, q6⟩
      · exact Or.inl q3
      · exact Or.inr (Or.inl q3)
      · exact Or.inr (Or.inr (Or.inl q3))
      · exact Or.inr (Or.inr (Or.inr (Or.inl q3)))
      · refine Or.inr (Or.inr (Or.inr (Or.inr ⟨q3, q4, q5, ?_⟩)))
        rcases q6 with ⟨q6, q7, q8⟩ | q6
        · exact Or.inl ⟨q6, by omega, by rw [zn_up_n (by omega)]; exact q8⟩
        · exact Or.inr q6
  · obtain ⟨q1, q2⟩ := h10 j j1 j2
    refine ⟨q1, fun hh => ?_⟩
    obtain ⟨q3, q4⟩ := q2 hh
    rw [zn_up_n (by omega)]
    exact ⟨by omega, q4⟩
/-- something waits that is no jump -/
theorem zp_push {e0 : Nat} {D said w : Int → Int} {pl len cm wt d pl2 x : Int} (h : zp_s e0 D said w pl len cm wt d) (hx : 0 ≤ x ∧ x / 1048576 ≠ 11 ∧ x / 1048576 ≠ 12) (hb : cm + zp_pn w wt + (if (2 ≤ x / 1048576 ∧ x / 1048576 ≤ 6) ∨ x / 1048576 = 10 then 1 else 0) + e0 ≤ pl2 ∧ wt + 1 ≤ pl2 ∧ pl2 ≤ len) : zp_s e0 D said (zn_up w wt x) pl2 len cm (wt + 1) d := by
  obtain ⟨⟨h1, h2, h3, h4, h5, h6, h7, h8⟩, h9, h10⟩ := h
  refine ⟨⟨h1, by omega, hb.2.1, hb.2.2, h5, ?_, h7, h8⟩, fun k k1 k2 => ?_, fun j j1 j2 => ?_⟩
  · rw [zp_pn_s h2, zp_pn_up (Int.le_refl _), zn_up_s]
    have := hb.1
    omega
  · obtain ⟨q1, q2, q3⟩ := h9 k k1 k2
    refine ⟨q1, q2, ?_⟩
    rcases q3 with q3 | q3 | q3 | q3 | ⟨q3, q4, q5, q6⟩
    · exact Or.inl q3
    · exact Or.inr (Or.inl q3)
    · exact Or.inr (Or.inr (Or.inl q3))
    · exact Or.inr (Or.inr (Or.inr (Or.inl q3)))
    · refine Or.inr (Or.inr (Or.inr (Or.inr ⟨q3, q4, q5, ?_⟩)))
      rcases q6 with q6 | ⟨j, j1, j2, j3, j4⟩
      · exact Or.inl q6
      · exact Or.inr ⟨j, j1, by omega, by rw [zn_up_n (by omega)]; exact j3, by rw [zn_up_n (by omega)]; exact j4⟩
  · by_cases e : j = wt
    · subst e
      rw [zn_up_s]
      exact ⟨hx.1, fun hh => absurd hh (by omega)⟩
    · rw [zn_up_n e]
      exact h10 j j1 (by omega)
/-- what waits no more, if it is no jump -/
theorem zp_pop {e0 : Nat} {D said w : Int → Int} {pl len cm wt d : Int} (h : zp_s e0 D said w pl len cm wt d) (h0 : 0 < wt) (hx : w (wt - 1) / 1048576 ≠ 11 ∧ w (wt - 1) / 1048576 ≠ 12) : zp_s e0 D said w pl len cm (wt - 1) d ∧ zp_pn w wt = zp_pn w (wt - 1) + (if (2 ≤ w (wt - 1) / 1048576 ∧ w (wt - 1) / 1048576 ≤ 6) ∨ w (wt - 1) / 1048576 = 10 then 1 else 0) := by
  obtain ⟨⟨h1, h2, h3, h4, h5, h6, h7, h8⟩, h9, h10⟩ := h
  have e := zp_pn_s (w := w) (i := wt - 1) (by omega)
  rw [show wt - 1 + 1 = wt by omega] at e
  have l := zp_pn_le (w := w) (a := wt - 1) (b := wt) (by omega)
  refine ⟨⟨⟨h1, by omega, by omega, h4, h5, by omega, h7, h8⟩, fun k k1 k2 => ?_, fun j j1 j2 => h10 j j1 (by omega)⟩, e⟩
  obtain ⟨q1, q2, q3⟩ := h9 k k1 k2
  refine ⟨q1, q2, ?_⟩
  rcases q3 with q3 | q3 | q3 | q3 | ⟨q3, q4, q5, q6⟩
  · exact Or.inl q3
  · exact Or.inr (Or.inl q3)
  · exact Or.inr (Or.inr (Or.inl q3))
  · exact Or.inr (Or.inr (Or.inr (Or.inl q3)))
  · refine Or.inr (Or.inr (Or.inr (Or.inr ⟨q3, q4, q5, ?_⟩)))
    rcases q6 with q6 | ⟨j, j1, j2, j3, j4⟩
    · exact Or.inl q6
    · by_cases e2 : j = wt - 1
      · subst e2
        exact absurd j3 (by omega)
      · exact Or.inr ⟨j, j1, by omega, j3, j4⟩
/-- a jump is noted and waits -/
theorem zp_jump {e0 : Nat} {D said w : Int → Int} {pl len cm wt d pl2 op : Int} (h : zp_s e0 D said w pl len cm wt d) (hop : op = 11 ∨ op = 12) (hd : 1 ≤ d) (hb : cm + 1 + zp_pn w wt + e0 ≤ pl2 ∧ wt + 1 ≤ pl2 ∧ pl2 ≤ len) : zp_s e0 (zn_up D (cm + 1) 0) (zn_up said cm (1048576 * op + 0)) (zn_up w wt (1048576 * op + cm)) pl2 len (cm + 1) (wt + 1) 0 := by
  obtain ⟨⟨h1, h2, h3, h4, h5, h6, h7, h8⟩, h9, h10⟩ := h
  have hn := zp_pn_nn (w := w) (a := wt)
  have e1 : (1048576 * op + 0) / 1048576 = op := by omega
  have e2 : (1048576 * op + 0) % 1048576 = 0 := by omega
  have e3 : (1048576 * op + cm) / 1048576 = op := by omega
  have e4 : (1048576 * op + cm) % 1048576 = cm := by omega
  refine ⟨⟨by omega, by omega, hb.2.1, hb.2.2, h5, ?_, zn_up_s, by omega⟩, fun k k1 k2 => ?_, fun j j1 j2 => ?_⟩
  · rw [zp_pn_s h2, zp_pn_up (Int.le_refl _), zn_up_s, e3, if_neg (by omega)]
    have := hb.1
    omega
  · by_cases e : k = cm
    · subst e
      unfold zp_q
      rw [zn_up_s, e1, e2, zn_up_s, zn_up_n (show k ≠ k + 1 by omega), h7]
      exact ⟨by omega, h8, Or.inr (Or.inr (Or.inr (Or.inr ⟨hop, hd, by omega, Or.inr ⟨wt, h2, by omega, by rw [zn_up_s, e3]; exact hop, by rw [zn_up_s, e4]⟩⟩)))⟩
    · obtain ⟨q1, q2, q3⟩ := h9 k k1 (by omega)
      unfold zp_q
      rw [zn_up_n e, zn_up_n (show k ≠ cm + 1 by omega), zn_up_n (show k + 1 ≠ cm + 1 by omega)]
      refine ⟨q1, q2, ?_⟩
      rcases q3 with q3 | q3 | q3 | q3 | ⟨q3, q4, q5, q6⟩
      · exact Or.inl q3
      · exact Or.inr (Or.inl q3)
      · exact Or.inr (Or.inr (Or.inl q3))
      · exact Or.inr (Or.inr (Or.inr (Or.inl q3)))
      · refine Or.inr (Or.inr (Or.inr (Or.inr ⟨q3, q4, q5, ?_⟩)))
        rcases q6 with ⟨q6, q7, q8⟩ | ⟨j, j1, j2, j3, j4⟩
        · exact Or.inl ⟨q6, by omega, by rw [zn_up_n (by omega)]; exact q8⟩
        · exact Or.inr ⟨j, j1, by omega, by rw [zn_up_n (by omega)]; exact j3, by rw [zn_up_n (by omega)]; exact j4⟩
  · by_cases e : j = wt
    · subst e
      rw [zn_up_s, e3, e4, zn_up_s, e1]
      exact ⟨by omega, fun _ => ⟨by omega, hop⟩⟩
    · rw [zn_up_n e]
      obtain ⟨q1, q2⟩ := h10 j j1 (by omega)
      refine ⟨q1, fun hh => ?_⟩
      obtain ⟨q3, q4⟩ := q2 hh
      rw [zn_up_n (by omega)]
      exact ⟨by omega, q4⟩
/-- a jump lands -/
theorem zp_land {e0 : Nat} {D said w : Int → Int} {pl len cm wt d : Int} (h : zp_s e0 D said w pl len cm wt d) (h0 : 0 < wt) (hx : w (wt - 1) / 1048576 = 11 ∨ w (wt - 1) / 1048576 = 12) (hd : d ≤ 1) :
    (0 ≤ w (wt - 1) % 1048576 ∧ w (wt - 1) % 1048576 < cm) ∧ 0 ≤ said (w (wt - 1) % 1048576) ∧ said (w (wt - 1) % 1048576) / 1048576 ≤ 12 ∧ zp_pn w wt = zp_pn w (wt - 1) ∧ zp_s e0 D (zn_up said (w (wt - 1) % 1048576) (1048576 * (said (w (wt - 1) % 1048576) / 1048576) + cm)) w pl len cm (wt - 1) d := by
  obtain ⟨⟨h1, h2, h3, h4, h5, h6, h7, h8⟩, h9, h10⟩ := h
  have hn := zp_pn_nn (w := w) (a := wt)
  have e := zp_pn_s (w := w) (i := wt - 1) (by omega)
  rw [show wt - 1 + 1 = wt by omega, if_neg (by omega)] at e
  obtain ⟨t1, t2⟩ := h10 (wt - 1) (by omega) (by omega)
  obtain ⟨t3, t4⟩ := t2 hx
  generalize hf : w (wt - 1) % 1048576 = f at *
  have f0 : 0 ≤ f := by omega
  obtain ⟨g1, g2, g3⟩ := h9 f f0 t3
  have gD : 1 ≤ D f ∧ D (f + 1) ≤ D f - 1 := by
    rcases g3 with g | g | g | g | g
    · exact absurd t4 (by omega)
    · exact absurd t4 (by omega)
    · exact absurd t4 (by omega)
    · exact absurd t4 (by omega)
    · exact ⟨g.2.1, g.2.2.1⟩
  have e1 : (1048576 * (said f / 1048576) + cm) / 1048576 = said f / 1048576 := by omega
  have e2 : (1048576 * (said f / 1048576) + cm) % 1048576 = cm := by omega
  refine ⟨⟨f0, t3⟩, g1, by omega, by omega, ⟨h1, by omega, by omega, h4, h5, by omega, h7, h8⟩, fun k k1 k2 => ?_, fun j j1 j2 => ?_⟩
  · by_cases ek : k = f
    · subst ek
      unfold zp_q
      rw [zn_up_s, e1, e2]
      exact ⟨by omega, g2, Or.inr (Or.inr (Or.inr (Or.inr ⟨t4, gD.1, gD.2, Or.inl ⟨t3, Int.le_refl _, by omega⟩⟩)))⟩
    · obtain ⟨q1, q2, q3⟩ := h9 k k1 k2
      unfold zp_q
      rw [zn_up_n ek]
      refine ⟨q1, q2, ?_⟩
      rcases q3 with q3 | q3 | q3 | q3 | ⟨q3, q4, q5, q6⟩
      · exact Or.inl q3
      · exact Or.inr (Or.inl q3)
      · exact Or.inr (Or.inr (Or.inl q3))
      · exact Or.inr (Or.inr (Or.inr (Or.inl q3)))
      · refine Or.inr (Or.inr (Or.inr (Or.inr ⟨q3, q4, q5, ?_⟩)))
        rcases q6 with q6 | ⟨j, j1, j2, j3, j4⟩
        · exact Or.inl q6
        · by_cases e3 : j = wt - 1
          · subst e3
            exact absurd (j4.symm.trans hf) ek
          · exact Or.inr ⟨j, j1, by omega, j3, j4⟩
  · obtain ⟨q1, q2⟩ := h10 j j1 (by omega)
    refine ⟨q1, fun hh => ?_⟩
    obtain ⟨q3, q4⟩ := q2 hh
    refine ⟨q3, ?_⟩
    by_cases e3 : w j % 1048576 = f
    · rw [e3, zn_up_s, e1]; exact t4
    · rw [zn_up_n e3]; exact q4
/-- nothing is known of the depth but that it is not below 0 -/
theorem zp_low {e0 : Nat} {D said w : Int → Int} {pl len cm wt d d' : Int} (h : zp_s e0 D said w pl len cm wt d) (h0 : 0 ≤ d') (h1 : d' ≤ d) : zp_s e0 (zn_up D cm d') said w pl len cm wt d' := by
  obtain ⟨⟨h1, h2, h3, h4, h5, h6, h7, h8⟩, h9, h10⟩ := h
  refine ⟨⟨h1, h2, h3, h4, h5, h6, zn_up_s, h0⟩, fun k k1 k2 => ?_, h10⟩
  have le : ∀ i, zn_up D cm d' i ≤ D i := by
    intro i
    by_cases e : i = cm
    · subst e; rw [zn_up_s]; omega
    · rw [zn_up_n e]; exact Int.le_refl _
  have l1 := le (k + 1)
  have l2 := le (said k % 1048576)
  obtain ⟨q1, q2, q3⟩ := h9 k k1 k2
  unfold zp_q
  rw [zn_up_n (show k ≠ cm by omega)]
  refine ⟨q1, q2, ?_⟩
  rcases q3 with q3 | q3 | q3 | q3 | ⟨q3, q4, q5, q6⟩
  · exact Or.inl ⟨q3.1, by omega⟩
  · exact Or.inr (Or.inl ⟨q3.1, q3.2.1, by omega⟩)
  · exact Or.inr (Or.inr (Or.inl ⟨q3.1, q3.2.1, q3.2.2.1, by omega⟩))
  · exact Or.inr (Or.inr (Or.inr (Or.inl ⟨q3.1, q3.2.1, by omega⟩)))
  · refine Or.inr (Or.inr (Or.inr (Or.inr ⟨q3, q4, by omega, ?_⟩)))
    rcases q6 with ⟨q6, q7, q8⟩ | q6
    · exact Or.inl ⟨q6, q7, by omega⟩
    · exact Or.inr q6
/-- nothing waits -/
theorem zp_none {e0 : Nat} {D said w w2 : Int → Int} {pl len cm d : Int} (h : zp_s e0 D said w pl len cm 0 d) : zp_s e0 D said w2 pl len cm 0 d := by
  obtain ⟨⟨h1, h2, h3, h4, h5, h6, h7, h8⟩, h9, h10⟩ := h
  refine ⟨⟨h1, h2, h3, h4, h5, h6, h7, h8⟩, fun k k1 k2 => ?_, fun j j1 j2 => absurd j1 (by omega)⟩
  obtain ⟨q1, q2, q3⟩ := h9 k k1 k2
  refine ⟨q1, q2, ?_⟩
  rcases q3 with q3 | q3 | q3 | q3 | ⟨q3, q4, q5, q6⟩
  · exact Or.inl q3
  · exact Or.inr (Or.inl q3)
  · exact Or.inr (Or.inr (Or.inl q3))
  · exact Or.inr (Or.inr (Or.inr (Or.inl q3)))
  · refine Or.inr (Or.inr (Or.inr (Or.inr ⟨q3, q4, q5, ?_⟩)))
    rcases q6 with q6 | ⟨j, j1, j2, _⟩
    · exact Or.inl q6
    · exact absurd j1 (by omega)
/-- the text goes on -/
theorem zp_on {e0 : Nat} {D said w : Int → Int} {pl len cm wt d pl2 : Int} (h : zp_s e0 D said w pl len cm wt d) (h1 : pl ≤ pl2) (h2 : pl2 ≤ len) : zp_s e0 D said w pl2 len cm wt d := by
  obtain ⟨⟨a1, a2, a3, a4, a5, a6, a7, a8⟩, h9, h10⟩ := h
  exact ⟨⟨a1, a2, by omega, h2, a5, by omega, a7, a8⟩, h9, h10⟩
