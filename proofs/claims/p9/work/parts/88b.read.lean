/-! A tale, read to its end: alike on both sides. -/
section YTR
variable {T M : Int → Int} {len : Int}
theorem yt_nm_in (p : Int) : -1 ≤ yt_nm T len p ∧ yt_nm T len p ≤ 7 := by
  unfold yt_nm
  split <;> omega
theorem yt_nm_pk {p : Int} (h : ¬ yt_nm T len p = -1) : p < len ∧ yp_pk T len p = yt_nm T len p + 65 := by
  unfold yt_nm at h ⊢
  by_cases q : p < len ∧ 65 ≤ T p ∧ T p ≤ 72
  · rw [if_pos q]
    refine ⟨q.1, ?_⟩
    unfold yp_pk
    rw [if_pos q.1]
    omega
  · rw [if_neg q] at h
    exact absurd rfl h
theorem ym_tl_0 {f : Nat} {p n flt : Int} {g1 g2 : Int → Int} : zf_M_tale_l0 len M (f + 1) 0 p n flt g1 g2 = some (0, p, n, flt, g1, g2) := by
  show zf_M_tale_l0_b len M (zf_M_tale_l0 len M f) 0 p n flt g1 g2 = _
  unfold zf_M_tale_l0_b
  rw [if_pos rfl]
def yt_K : ((Int × Int × Int × (Int → Int)) ⊕ (Int × Int × Int × (Int → Int))) → Option (Int × Int × Int × (Int → Int)) := fun q22 => Sum.elim (fun e23 => ((zf_X_faultAt 1 e23.1).bind fun r24 => (some (r24, e23.2.1, e23.2.2.1, e23.2.2.2)))) (fun w25 => some w25) q22
theorem zl_bo {α : Type} {x : Option α} {v : Int} : cond (zi_bo ((0 : Int), v).1) x none = x := rfl
theorem yt_K_l {p n nm : Int} {nr : Int → Int} (p0 : 0 ≤ p) (p1 : p ≤ 220) : yt_K (.inl (p, n, nm, nr)) = some (-1000 * 1 - p, n, nm, nr) := by
  unfold yt_K
  simp only [Sum.elim_inl]
  rw [ze_fault p0 p1 (by decide) (by decide), zl_b]
theorem yt_01 {p n flt : Int} {g1 g2 : Int → Int} {z : Int × Int × Int × Int × (Int → Int) × (Int → Int)} (h : zf_M_readsTaleLine p len n flt M g1 g2 = some z) : z.1 = 0 ∨ z.1 = 1 := by
  unfold zf_M_readsTaleLine zf_M_wrongAt at h
  obtain ⟨r1, -, h⟩ := Option.bind_eq_some_iff.mp h
  split at h
  · rw [zl_b, zl_bo] at h; cases h; exact .inl rfl
  split at h
  · rw [zl_b, zl_bo] at h; cases h; exact .inl rfl
  obtain ⟨r4, -, h⟩ := Option.bind_eq_some_iff.mp h
  obtain ⟨r5, -, h⟩ := Option.bind_eq_some_iff.mp h
  split at h
  · rw [zl_b, zl_bo] at h; cases h; exact .inl rfl
  obtain ⟨r7, -, h⟩ := Option.bind_eq_some_iff.mp h
  split at h
  · rw [zl_b, zl_bo] at h; cases h; exact .inl rfl
  obtain ⟨r9, -, h⟩ := Option.bind_eq_some_iff.mp h
  split at h
  · obtain ⟨-, h⟩ := zi_if h
    cases h; exact .inr rfl
  · rw [zl_b, zl_bo] at h; cases h; exact .inl rfl
theorem yt_read (hT : yk_T T M) (l1 : 1 ≤ len) (l2 : len ≤ 60) : ∀ (d : Nat) (p n nm flt : Int) (nr g1 g2 : Int → Int) (f f2 : Nat), len - p ≤ d → 0 ≤ p → p ≤ len → d < f → d + 1 < f2 → yk_tl n nm nr g1 g2 →
    ∃ r n' nm' nr' ok p' n2 flt' g1' g2', ((zf_Tale_read_220_l0 len T f p n nm nr).bind yt_K = some (r, n', nm', nr')) ∧
      ((zf_M_readsTaleLine p len n flt M g1 g2).bind fun r4 => zf_M_tale_l0 len M f2 r4.1 r4.2.1 r4.2.2.1 r4.2.2.2.1 r4.2.2.2.2.1 r4.2.2.2.2.2) = some (ok, p', n2, flt', g1', g2') ∧
      ((ok = 0 ∧ r = flt' ∧ r ≤ 0) ∨ (ok = 1 ∧ r = n2 ∧ n' = n2 ∧ 0 < r ∧ yk_tl n' nm' nr' g1' g2')) := by
  intro d
  induction d with
  | zero =>
    intro p n nm flt nr g1 g2 f f2 e p0 p1 hf hf2 h
    obtain ⟨f, rfl⟩ : ∃ q, f = q + 1 := ⟨f - 1, by omega⟩
    obtain ⟨f2, rfl⟩ : ∃ q, f2 = q + 1 := ⟨f2 - 1, by omega⟩
    have hnm : yt_nm T len p = -1 := by
      unfold yt_nm; rw [if_neg (by omega)]
    refine ⟨-1000 * 1 - p, n, nm, nr, 0, p, n, -1000 * 1 - p, g1, g2, ?_, ?_, .inl ⟨rfl, rfl, by omega⟩⟩
    · show ((zf_Tale_read_220_l0_b len T (zf_Tale_read_220_l0 len T f) p n nm nr).bind yt_K) = _
      unfold zf_Tale_read_220_l0_b
      rw [if_neg (by omega), zl_b]
      exact yt_K_l p0 (by omega)
    · unfold zf_M_readsTaleLine
      rw [ze_isName hT p0 (by omega), zl_b, if_pos hnm, if_pos rfl, ze_wrong p0 (by omega) (by decide) (by decide), zl_b, zl_bo, zl_b]
      exact ym_tl_0
  | succ d ih =>
    intro p n nm flt nr g1 g2 f f2 e p0 p1 hf hf2 h
    obtain ⟨f, rfl⟩ : ∃ q, f = q + 1 := ⟨f - 1, by omega⟩
    obtain ⟨f2, rfl⟩ : ∃ q, f2 = q + 1 := ⟨f2 - 1, by omega⟩
    obtain ⟨⟨n0, n1⟩, -, -, -, -, hr⟩ := id h
    have ha := yt_nm_in (T := T) (len := len) p
    have hb := yt_nm_in (T := T) (len := len) (p + 1)
    show ∃ r n' nm' nr' ok p' n2 flt' g1' g2', ((zf_Tale_read_220_l0_b len T (zf_Tale_read_220_l0 len T f) p n nm nr).bind yt_K = _) ∧ _
    unfold zf_Tale_read_220_l0_b zf_M_readsTaleLine
    by_cases q : ¬ p < len
    · have hnm : yt_nm T len p = -1 := by
        unfold yt_nm; rw [if_neg (by omega)]
      rw [if_neg q, zl_b, ze_isName hT p0 (by omega), zl_b, if_pos hnm, if_pos rfl, ze_wrong p0 (by omega) (by decide) (by decide), zl_b, zl_bo, zl_b]
      exact ⟨-1000 * 1 - p, n, nm, nr, 0, p, n, -1000 * 1 - p, g1, g2, yt_K_l p0 (by omega), ym_tl_0, .inl ⟨rfl, rfl, by omega⟩⟩
    have q : p < len := by omega
    rw [if_pos q, if_neg (show ¬ 12 < n by omega), ze_nameAt p0 (by omega), zl_b, ze_isName hT p0 (by omega), zl_b]
    by_cases c1 : yt_nm T len p = -1
    · rw [if_pos c1, if_pos c1, if_pos rfl, ze_fault p0 (by omega) (by decide) (by decide), zl_b, zl_b, ze_wrong p0 (by omega) (by decide) (by decide), zl_b, zl_bo, zl_b]
      exact ⟨-1000 * 1 - p, n, nm, nr, 0, p, n, -1000 * 1 - p, g1, g2, rfl, ym_tl_0, .inl ⟨rfl, rfl, by omega⟩⟩
    rw [if_neg c1, if_neg c1, if_neg (show ¬ (1 : Int) = 0 by decide)]
    by_cases c2 : n = 12
    · rw [if_pos c2, if_pos c2, ze_fault p0 (by omega) (by decide) (by decide), zl_b, zl_b, ze_wrong p0 (by omega) (by decide) (by decide), zl_b, zl_bo, zl_b]
      exact ⟨-1000 * 4 - p, n, nm, nr, 0, p, n, -1000 * 4 - p, g1, g2, rfl, ym_tl_0, .inl ⟨rfl, rfl, by omega⟩⟩
    rw [if_neg c2, if_neg c2, ze_here hT p0 (by omega), zl_b, zi_w_id (x := p + 1) (by omega) (by omega), ze_nameAt (show 0 ≤ p + 1 by omega) (by omega), zl_b, ze_isName hT (show 0 ≤ p + 1 by omega) (by omega), zl_b]
    by_cases c3 : yt_nm T len (p + 1) = -1
    · rw [if_pos c3, if_pos c3, if_pos rfl, ze_fault (show 0 ≤ p + 1 by omega) (by omega) (by decide) (by decide), zl_b, zl_b, ze_wrong (show 0 ≤ p + 1 by omega) (by omega) (by decide) (by decide), zl_b, zl_bo, zl_b]
      exact ⟨-1000 * 1 - (p + 1), n, nm, nr, 0, p + 1, n, -1000 * 1 - (p + 1), g1, g2, rfl, ym_tl_0, .inl ⟨rfl, rfl, by omega⟩⟩
    obtain ⟨-, pk1⟩ := yt_nm_pk c1
    obtain ⟨q2, pk2⟩ := yt_nm_pk c3
    rw [if_neg c3, if_neg c3, if_neg (show ¬ (1 : Int) = 0 by decide), ze_here hT (show 0 ≤ p + 1 by omega) (by omega), zl_b, pk1, pk2, zi_w_id (x := yt_nm T len p + 65 - 65) (by omega) (by omega), zi_w_id (x := yt_nm T len (p + 1) + 65 - 65) (by omega) (by omega), Int.add_sub_cancel, Int.add_sub_cancel]
    by_cases c4 : yt_nm T len (p + 1) = yt_nm T len p
    · rw [if_pos c4, if_pos c4.symm, ze_fault (show 0 ≤ p + 1 by omega) (by omega) (by decide) (by decide), zl_b, zl_b, ze_wrong (show 0 ≤ p + 1 by omega) (by omega) (by decide) (by decide), zl_b, zl_bo, zl_b]
      exact ⟨-1000 * 3 - (p + 1), n, nm, nr, 0, p + 1, n, -1000 * 3 - (p + 1), g1, g2, rfl, ym_tl_0, .inl ⟨rfl, rfl, by omega⟩⟩
    rw [if_neg c4, if_neg (show ¬ yt_nm T len p = yt_nm T len (p + 1) from fun w => c4 w.symm), zl_ci (show 0 ≤ yt_nm T len p by omega) (by omega), zb_bit (show 0 ≤ yt_nm T len (p + 1) by omega) (by omega)]
    have hbit := (hr (yt_nm T len p) (by omega) (by omega)).2 (yt_nm T len (p + 1)).toNat
    rw [Int.toNat_of_nonneg (by omega)] at hbit
    rcases yt_tw (a := yt_nm T len p) (b := yt_nm T len (p + 1)) h with ⟨e1, nt⟩ | ⟨e1, nt⟩
    rotate_left
    · rw [e1, zl_b, if_neg (show ¬ (1 : Int) = 0 by decide), if_pos (hbit.mpr nt), if_neg (show ¬ (1 : Int) = 0 by decide), ze_fault p0 (by omega) (by decide) (by decide), zl_b, zl_b, ze_wrong p0 (by omega) (by decide) (by decide), zl_b, zl_bo, zl_b]
      exact ⟨-1000 * 6 - p, n, nm, nr, 0, p + 1, n, -1000 * 6 - p, g1, g2, rfl, ym_tl_0, .inl ⟨rfl, rfl, by omega⟩⟩
    rw [e1, zl_b, if_pos rfl, if_neg (fun w => nt (hbit.mp w)), if_pos rfl, zl_ci n0 (by omega), zl_b]
    have hadd := yk_tl_add h (a := yt_nm T len p) (b := yt_nm T len (p + 1)) (by omega) (by omega) (by omega) (by omega) (by omega) (fun w => c4 w.symm) nt
    unfold zf_Tale_addLine
    rw [zl_ci (by omega) (by omega), zl_ci (by omega) (by omega), zl_b, zi_w_id (x := n + 1) (by omega) (by omega), zi_w_id (x := p + 1 + 1) (by omega) (by omega), zi_w_id (x := p + 2) (by omega) (by omega)]
    dsimp only
    obtain ⟨f2, rfl⟩ : ∃ q, f2 = q + 1 := ⟨f2 - 1, by omega⟩
    show ∃ r n' nm' nr' ok p' n2 flt' g1' g2', _ ∧ zf_M_tale_l0_b len M (zf_M_tale_l0 len M (f2 + 1)) 1 (p + 1 + 1) (n + 1) flt _ _ = _ ∧ _
    unfold zf_M_tale_l0_b
    rw [if_neg (show ¬ (1 : Int) = 0 by decide), show p + 1 + 1 = p + 2 by omega]
    by_cases c5 : p + 2 = len
    · rw [if_pos c5, if_neg (by omega), zl_b]
      exact ⟨n + 1, n + 1, _, _, 1, p + 2, n + 1, flt, _, _, rfl, rfl, .inr ⟨rfl, rfl, rfl, by omega, hadd⟩⟩
    rw [if_neg c5, if_pos (show p + 2 < len by omega), zl_ci (by omega) (by omega)]
    unfold zf_M_takes
    rw [ze_here hT (show 0 ≤ p + 2 by omega) (by omega), zl_b]
    have pk : yp_pk T len (p + 2) = T (p + 2) := if_pos (by omega)
    rw [pk]
    by_cases c6 : T (p + 2) = 59
    · rw [if_pos c6, if_pos c6, zl_b, if_neg (show ¬ (1 : Int) = 0 by decide), zi_w_id (x := p + 2 + 1) (by omega) (by omega)]
      dsimp only
      obtain ⟨r, n', nm', nr', ok, p', n2, flt', g1', g2', x1, x2, x3⟩ := ih (p + 2 + 1) (n + 1) _ flt _ _ _ f (f2 + 1) (by omega) (by omega) (by omega) (by omega) (by omega) hadd
      refine ⟨r, n', nm', nr', ok, p', n2, flt', g1', g2', x1, ?_, x3⟩
      rw [← x2]
      generalize hz : zf_M_readsTaleLine (p + 2 + 1) len (n + 1) flt M (zv_up g1 n (yt_nm T len p)) (zv_up g2 n (yt_nm T len (p + 1))) = z
      cases z with
      | none => rfl
      | some z =>
        rw [zl_b, zl_b]
        rcases yt_01 hz with c | c
        · rw [if_pos c, c]
        · rw [if_neg (by rw [c]; decide), c]
    · rw [if_neg c6, if_neg c6, ze_fault (show 0 ≤ p + 2 by omega) (by omega) (by decide) (by decide), zl_b, zl_b, ze_wrong (show 0 ≤ p + 2 by omega) (by omega) (by decide) (by decide), zl_b, zl_bo, zl_b, if_pos rfl]
      exact ⟨-1000 * 1 - (p + 2), n + 1, _, _, 0, p + 2, n + 1, -1000 * 1 - (p + 2), _, _, rfl, ym_tl_0, .inl ⟨rfl, rfl, by omega⟩⟩
end YTR
