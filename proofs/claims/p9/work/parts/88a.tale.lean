/-! A tale: read alike on both sides. -/
def yt_ln (n : Int) (fr to : Int → Int) (a b : Int) : Prop := ∃ i, 0 ≤ i ∧ i < n ∧ ((fr i = a ∧ to i = b) ∨ (fr i = b ∧ to i = a))
def yk_tl (n nm : Int) (nr fr to : Int → Int) : Prop := (0 ≤ n ∧ n ≤ 12) ∧ (∀ i, 0 ≤ i → i < n → (0 ≤ fr i ∧ fr i ≤ 7) ∧ (0 ≤ to i ∧ to i ≤ 7) ∧ fr i ≠ to i) ∧
  (∀ i j, 0 ≤ i → i < j → j < n → ¬ ((fr i = fr j ∧ to i = to j) ∨ (fr i = to j ∧ to i = fr j))) ∧ z24 nm ∧ (∀ b : Nat, zb nm b = true ↔ ∃ i, 0 ≤ i ∧ i < n ∧ (fr i = b ∨ to i = b)) ∧
  ∀ a, 0 ≤ a → a < 8 → z24 (nr a) ∧ ∀ b : Nat, zb (nr a) b = true ↔ yt_ln n fr to a b
def yt_nm (T : Int → Int) (len p : Int) : Int := if p < len ∧ 65 ≤ T p ∧ T p ≤ 72 then T p - 65 else -1
section YTL
variable {T M nr fr to : Int → Int} {len n nm a b p f : Int}
theorem ze_fault (h1 : 0 ≤ p) (h2 : p ≤ 220) {x : Int} (k1 : 0 ≤ x) (k2 : x ≤ 6) : zf_X_faultAt x p = some (-1000 * x - p) := by
  unfold zf_X_faultAt
  rw [zi_w_id (x := -1000 * x) (by omega) (by omega), zi_w_id (x := -1000 * x - p) (by omega) (by omega)]
theorem yt_ln_up (h0 : 0 ≤ n) {p q : Int} : yt_ln (n + 1) (zv_up fr n a) (zv_up to n b) p q ↔ yt_ln n fr to p q ∨ (a = p ∧ b = q) ∨ (a = q ∧ b = p) := by
  constructor
  · rintro ⟨i, i0, i1, h⟩
    by_cases e : i = n
    · subst e
      rw [zv_up_s, zv_up_s] at h
      exact .inr h
    · rw [zv_up_n e, zv_up_n e] at h
      exact .inl ⟨i, i0, by omega, h⟩
  · rintro (⟨i, i0, i1, h⟩ | h)
    · refine ⟨i, i0, by omega, ?_⟩
      rw [zv_up_n (by omega), zv_up_n (by omega)]
      exact h
    · refine ⟨n, h0, by omega, ?_⟩
      rw [zv_up_s, zv_up_s]
      exact h
theorem yk_tl_add (h : yk_tl n nm nr fr to) (hn : n < 12) (a0 : 0 ≤ a) (a1 : a ≤ 7) (b0 : 0 ≤ b) (b1 : b ≤ 7) (ab : a ≠ b) (nt : ¬ yt_ln n fr to a b) :
    yk_tl (n + 1) (zi_or nm (zi_or (zi_shl 1 a) (zi_shl 1 b))) (zv_up (zv_up nr a (zi_or (nr a) (zi_shl 1 b))) b (zi_or (zv_up nr a (zi_or (nr a) (zi_shl 1 b)) b) (zi_shl 1 a))) (zv_up fr n a) (zv_up to n b) := by
  obtain ⟨⟨n0, n1⟩, hi, hd, hz, hb, hr⟩ := h
  refine ⟨⟨by omega, by omega⟩, fun i i0 i1 => ?_, fun i j i0 ij j1 => ?_, z24_or hz (z24_or (z24_shl a0 (by omega)) (z24_shl b0 (by omega))), fun c => ?_, fun c c0 c1 => ?_⟩
  · by_cases e : i = n
    · subst e
      rw [zv_up_s, zv_up_s]
      exact ⟨⟨a0, a1⟩, ⟨b0, b1⟩, ab⟩
    · rw [zv_up_n e, zv_up_n e]
      exact hi i i0 (by omega)
  · rw [zv_up_n (show i ≠ n by omega), zv_up_n (show i ≠ n by omega)]
    by_cases e : j = n
    · subst e
      rw [zv_up_s, zv_up_s]
      exact fun q => nt ⟨i, i0, ij, q⟩
    · rw [zv_up_n e, zv_up_n e]
      exact hd i j i0 ij (by omega)
  · rw [zb_or, zb_or, zb_shl a0 (by omega), zb_shl b0 (by omega), Bool.or_eq_true, Bool.or_eq_true, decide_eq_true_eq, decide_eq_true_eq, hb]
    constructor
    · rintro (⟨i, i0, i1, q⟩ | q)
      · refine ⟨i, i0, by omega, ?_⟩
        rw [zv_up_n (by omega), zv_up_n (by omega)]
        exact q
      · refine ⟨n, n0, by omega, ?_⟩
        rw [zv_up_s, zv_up_s]
        omega
    · rintro ⟨i, i0, i1, q⟩
      by_cases e : i = n
      · subst e
        rw [zv_up_s, zv_up_s] at q
        exact .inr (by omega)
      · rw [zv_up_n e, zv_up_n e] at q
        exact .inl ⟨i, i0, by omega, q⟩
  · obtain ⟨hz2, hb2⟩ := hr c c0 c1
    have hc : ∀ d : Nat, (yt_ln (n + 1) (zv_up fr n a) (zv_up to n b) c d ↔ _) := fun d => yt_ln_up (a := a) (b := b) (fr := fr) (to := to) n0 (p := c) (q := d)
    by_cases e : c = b
    · subst e
      rw [zv_up_s, zv_up_n (Ne.symm ab)]
      refine ⟨z24_or hz2 (z24_shl a0 (by omega)), fun d => ?_⟩
      rw [hc d, zb_or, zb_shl a0 (by omega), Bool.or_eq_true, decide_eq_true_eq, hb2]
      constructor
      · rintro (q | q)
        · exact .inl q
        · exact .inr (.inr ⟨by omega, rfl⟩)
      · rintro (q | ⟨q, q2⟩ | ⟨q, q2⟩)
        · exact .inl q
        · exact absurd q ab
        · exact .inr (by omega)
    · rw [zv_up_n e]
      by_cases e2 : c = a
      · subst e2
        rw [zv_up_s]
        refine ⟨z24_or hz2 (z24_shl b0 (by omega)), fun d => ?_⟩
        rw [hc d, zb_or, zb_shl b0 (by omega), Bool.or_eq_true, decide_eq_true_eq, hb2]
        constructor
        · rintro (q | q)
          · exact .inl q
          · exact .inr (.inl ⟨rfl, by omega⟩)
        · rintro (q | ⟨q, q2⟩ | ⟨q, q2⟩)
          · exact .inl q
          · exact .inr (by omega)
          · exact absurd q2.symm e
      · rw [zv_up_n e2]
        refine ⟨hz2, fun d => ?_⟩
        rw [hc d, hb2]
        constructor
        · exact .inl
        · rintro (q | ⟨q, q2⟩ | ⟨q, q2⟩)
          · exact q
          · exact absurd q.symm e2
          · exact absurd q2.symm e
theorem yt_tw_l (h : yk_tl n nm nr fr to) : ∀ (d : Nat) (j : Int) (f : Nat), n - j ≤ d → 0 ≤ j → d < f → (zf_M_isTwice_l0 a b n fr to f j = some (.inl ()) ∧ ∀ i, j ≤ i → i < n → ¬ ((fr i = a ∧ to i = b) ∨ (fr i = b ∧ to i = a))) ∨ (zf_M_isTwice_l0 a b n fr to f j = some (.inr 1) ∧ ∃ i, j ≤ i ∧ i < n ∧ ((fr i = a ∧ to i = b) ∨ (fr i = b ∧ to i = a))) := by
  intro d
  induction d with
  | zero =>
    intro j f e j0 hf
    obtain ⟨f, rfl⟩ : ∃ q, f = q + 1 := ⟨f - 1, by omega⟩
    refine .inl ⟨?_, fun i _ _ => by omega⟩
    show zf_M_isTwice_l0_b a b n fr to (zf_M_isTwice_l0 a b n fr to f) j = _
    unfold zf_M_isTwice_l0_b
    rw [if_neg (by omega)]
  | succ d ih =>
    intro j f e j0 hf
    obtain ⟨f, rfl⟩ : ∃ q, f = q + 1 := ⟨f - 1, by omega⟩
    have hn := h.1
    show (zf_M_isTwice_l0_b a b n fr to (zf_M_isTwice_l0 a b n fr to f) j = _ ∧ _) ∨ (zf_M_isTwice_l0_b a b n fr to (zf_M_isTwice_l0 a b n fr to f) j = _ ∧ _)
    unfold zf_M_isTwice_l0_b
    by_cases q : j < n
    · rw [if_pos q, zl_ci j0 (by omega), zi_w_id (x := j + 1) (by omega) (by omega)]
      by_cases c : (fr j = a ∧ to j = b) ∨ (fr j = b ∧ to j = a)
      · refine .inr ⟨?_, j, Int.le_refl _, q, c⟩
        by_cases c1 : fr j = a
        · rw [if_pos c1]
          by_cases c2 : to j = b
          · rw [if_pos c2]
          · rw [if_neg c2]
            obtain ⟨c3, c4⟩ : fr j = b ∧ to j = a := by rcases c with c | c; exact absurd c.2 c2; exact c
            rw [if_pos c3, if_pos c4]
        · rw [if_neg c1]
          obtain ⟨c3, c4⟩ : fr j = b ∧ to j = a := by rcases c with c | c; exact absurd c.1 c1; exact c
          rw [if_pos c3, if_pos c4]
      · have nx := ih (j + 1) f (by omega) (by omega) (by omega)
        have go : (if fr j = a then (if to j = b then some (.inr 1) else (if fr j = b then (if to j = a then some (.inr 1) else zf_M_isTwice_l0 a b n fr to f (j + 1)) else zf_M_isTwice_l0 a b n fr to f (j + 1))) else (if fr j = b then (if to j = a then some (.inr 1) else zf_M_isTwice_l0 a b n fr to f (j + 1)) else zf_M_isTwice_l0 a b n fr to f (j + 1))) = zf_M_isTwice_l0 a b n fr to f (j + 1) := by
          (repeat' split) <;> first | rfl | (exfalso; apply c; omega)
        rw [go]
        rcases nx with ⟨e1, e2⟩ | ⟨e1, i, i0, i1, e2⟩
        · refine .inl ⟨e1, fun i i0 i1 => ?_⟩
          by_cases ei : i = j
          · subst ei; exact c
          · exact e2 i (by omega) i1
        · exact .inr ⟨e1, i, by omega, i1, e2⟩
    · rw [if_neg q]
      exact .inl ⟨rfl, fun i _ _ => by omega⟩
theorem yt_tw (h : yk_tl n nm nr fr to) : (zf_M_isTwice a b n fr to = some 0 ∧ ¬ yt_ln n fr to a b) ∨ (zf_M_isTwice a b n fr to = some 1 ∧ yt_ln n fr to a b) := by
  unfold zf_M_isTwice
  rcases yt_tw_l (a := a) (b := b) h 12 0 zi_fu (by have := h.1; omega) (by decide) (by decide) with ⟨e1, e2⟩ | ⟨e1, i, i0, i1, e2⟩
  · rw [e1, zl_b]
    exact .inl ⟨rfl, fun ⟨i, i0, i1, q⟩ => e2 i i0 i1 q⟩
  · rw [e1, zl_b]
    exact .inr ⟨rfl, i, i0, i1, e2⟩
theorem ze_nameAt (h1 : 0 ≤ p) (h2 : len ≤ 220) : zf_Tale_nameAt_220 len p T = some (yt_nm T len p) := by
  unfold zf_Tale_nameAt_220 yt_nm
  rw [if_neg (by omega)]
  by_cases q : p < len
  · rw [if_pos q, if_pos (by omega), zl_ci h1 (by omega)]
    by_cases c : T p < 65
    · rw [if_pos c, if_neg (by omega)]
    rw [if_neg c]
    by_cases c2 : 72 < T p
    · rw [if_pos c2, if_neg (by omega)]
    rw [if_neg c2, if_pos (by omega), zi_w_id (x := T p - 65) (by omega) (by omega)]
  · rw [if_neg q, if_neg (by omega)]
theorem ze_isName (hT : yk_T T M) (h1 : 0 ≤ p) (h2 : len ≤ 220) : zf_M_isName p len M = some (if yt_nm T len p = -1 then 0 else 1) := by
  unfold zf_M_isName
  rw [ze_here hT h1 h2, zl_b, ze_M_in, zl_b]
  unfold yp_pk yt_nm zs_in
  by_cases q : p < len ∧ 65 ≤ T p ∧ T p ≤ 72
  · rw [if_pos q.1, if_pos (show 65 ≤ T p ∧ T p ≤ 72 by omega), if_pos q, if_neg (show ¬ T p - 65 = -1 by omega), zl_c (zi_bo_of (by decide) (by decide))]
  · rw [if_neg q, if_pos rfl]
    by_cases c : p < len
    · rw [if_pos c, if_neg (show ¬ (65 ≤ T p ∧ T p ≤ 72) by omega), zl_c (zi_bo_of (by decide) (by decide))]
    · rw [if_neg c, if_neg (show ¬ ((65 : Int) ≤ -1 ∧ (-1 : Int) ≤ 72) by decide), zl_c (zi_bo_of (by decide) (by decide))]
end YTL
