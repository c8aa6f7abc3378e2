/-! Factors, terms and sums: the class's reader goes as the machine goes. -/
def yp_okE (T : Int → Int) (len o nd : Int) (W : List Int → Prop) (N : Int → Prop) (p : Int) (c : zCD) (p' : Int) (c' : zCD) : Prop :=
  p < p' ∧ c.1 < c'.1 ∧ c'.1 - c.1 ≤ p' - p ∧ (∀ j, j < c.1 → c'.2.1 j = c.2.1 j ∧ c'.2.2 j = c.2.2 j) ∧ (∃ ρ, zd_seg false c'.2.1 c'.2.2 c.1 c'.1 nd ρ) ∧ N (yp_pk T len p') ∧
  ∀ w, W w → ∃ k : Nat, (k : Int) ≤ p' - p ∧ ∀ n, yp_S T len (n + k) true w o p c = yp_S T len n false w o p' c'
def yp_noE (T : Int → Int) (len o : Int) (W : List Int → Prop) (p : Int) (c : zCD) (f : Int) : Prop :=
  ∀ w, W w → ∃ k : Nat, (k : Int) ≤ len - p ∧ ∀ n, yp_S T len (n + k + 1) true w o p c = some (.inl f)
def yp_E (T : Int → Int) (len o nd : Int) (W : List Int → Prop) (N : Int → Prop) (p : Int) (c : zCD) (r : Int × Int × zCD) : Prop :=
  (0 ≤ r.2.1 ∧ r.2.1 ≤ len) ∧ (0 ≤ r.2.2.1 ∧ r.2.2.1 ≤ 200) ∧ (r.1 = 0 → yp_okE T len o nd W N p c r.2.1 r.2.2) ∧ (r.1 ≠ 0 → yp_noE T len o W p c r.1)
def yp_any (_ : Int) : Prop := True
def yp_nom (x : Int) : Prop := yp_ss x < 4
def yp_nos (x : Int) : Prop := yp_ss x = -1
section ZPE
variable {T : Int → Int} {len o nd nd2 : Int} {W W2 : List Int → Prop} {N N2 : Int → Prop} {p0 p s kk : Int} {c0 c : zCD} {r : Int × Int × zCD}
theorem yp_E_N (h : yp_E T len o nd W N2 p0 c0 r) (k : r.1 = 0 → N (yp_pk T len r.2.1)) : yp_E T len o nd W N p0 c0 r :=
  ⟨h.1, h.2.1, fun e => (by
    obtain ⟨q1, q2, q3, q4, q5, q6, q7⟩ := h.2.2.1 e
    exact ⟨q1, q2, q3, q4, q5, k e, q7⟩), h.2.2.2⟩
theorem yp_E_W (h : yp_E T len o nd W N p0 c0 r) (hn : nd ≤ nd2) (k : ∀ w, W2 w → W w) : yp_E T len o nd2 W2 N p0 c0 r :=
  ⟨h.1, h.2.1, fun e => (by
    obtain ⟨q1, q2, q3, q4, ⟨ρ, q5⟩, q6, q7⟩ := h.2.2.1 e
    exact ⟨q1, q2, q3, q4, ⟨ρ, zd_seg_nd q5 hn⟩, q6, fun w hw => q7 w (k w hw)⟩), fun e w hw => h.2.2.2 e w (k w hw)⟩
theorem yp_pk_lt (h : yp_pk T len p ≠ -1) : p < len := by
  apply Int.not_le.mp
  intro hh
  apply h
  unfold yp_pk
  rw [if_neg (by omega)]
theorem yp_E_step (hl : len ≤ 200) (h0 : c0.1 ≤ p0) (hs : yp_E T len o nd W N p0 c0 (0, p, c)) (hp : p < len) (hss : yp_ss (T p) = s) (s1 : 2 ≤ s) (s2 : s ≤ 6) (hk : kk = s + 3) (hr : yp_E T len o nd2 W2 N2 (p + 1) c r)
    (hW : ∀ w, W w → W2 (s :: w) ∧ yp_cl (decide (s < 4)) w c = (w, c)) (hM : ∀ w c' p', N2 (yp_pk T len p') → ∀ n, yp_S T len n false (s :: w) o p' c' = yp_S T len n false w o p' (yp_em kk 0 c')) (hn : nd2 + 1 ≤ nd) (hn1 : 1 ≤ nd2) :
    (r.1 = 0 → (0 ≤ r.2.2.1 ∧ r.2.2.1 < 200 ∧ p + 1 < r.2.1) ∧ yp_E T len o nd W yp_any p0 c0 (0, r.2.1, yp_em kk 0 r.2.2)) ∧ (r.1 ≠ 0 → ∀ c'' : zCD, 0 ≤ c''.1 → c''.1 ≤ 200 → yp_E T len o nd W N p0 c0 (r.1, r.2.1, c'')) := by
  obtain ⟨⟨p1, p2⟩, ⟨c1, c2⟩, hs, -⟩ := hs
  obtain ⟨a1, a2, a3, a4, ⟨ρ1, a5⟩, -, a7⟩ := hs rfl
  obtain ⟨⟨r1, r2⟩, ⟨r3, r4⟩, ro, rb⟩ := hr
  have a3 : c.1 - c0.1 ≤ p - p0 := a3
  have a2 : c0.1 < c.1 := a2
  have a1 : p0 < p := a1
  have p2 : p ≤ len := p2
  have pk : yp_pk T len p = T p := if_pos hp
  have one : ∀ w, W w → ∀ n, yp_S T len (n + 1) false w o p c = yp_S T len n true (s :: w) o (p + 1) c := fun w hw n => by
    rw [yp_S_f, pk, hss, if_pos (by omega), (hW w hw).2]
  refine ⟨fun e => ?_, fun e c'' d1 d2 => ?_⟩
  · obtain ⟨b1, b2, b3, b4, ⟨ρ2, b5⟩, b6, b7⟩ := ro e
    refine ⟨⟨r3, by omega, b1⟩, ⟨r1, r2⟩, ⟨?_, ?_⟩, fun _ => ⟨?_, ?_, ?_, fun j hj => ?_, ⟨_, zg_bin (nd2 := nd2) (b := c.1) (c := r.2.2.1) (ρ1 := ρ1) (ρ2 := ρ2) ?_ ?_ ?_ ?_ ?_ hn hn1 (fun h => by cases h)⟩, trivial, fun w hw => ?_⟩, fun h => absurd rfl h⟩
    · show 0 ≤ r.2.2.1 + 1; omega
    · show r.2.2.1 + 1 ≤ 200; omega
    · show p0 < r.2.1; omega
    · show c0.1 < r.2.2.1 + 1; omega
    · show r.2.2.1 + 1 - c0.1 ≤ r.2.1 - p0; omega
    · have q1 := b4 j (by omega)
      have q2 := a4 j hj
      exact ⟨(zv_up_n (show j ≠ r.2.2.1 by omega)).trans (q1.1.trans q2.1), (zv_up_n (show j ≠ r.2.2.1 by omega)).trans (q1.2.trans q2.2)⟩
    · exact zd_seg_fr a5 fun j j1 j2 => ⟨(zv_up_n (show j ≠ r.2.2.1 by omega)).trans (b4 j j2).1, (zv_up_n (show j ≠ r.2.2.1 by omega)).trans (b4 j j2).2⟩
    · exact zd_seg_fr b5 fun j j1 j2 => ⟨zv_up_n (show j ≠ r.2.2.1 by omega), zv_up_n (show j ≠ r.2.2.1 by omega)⟩
    · show 5 ≤ zv_up r.2.2.2.1 r.2.2.1 kk r.2.2.1
      rw [zv_up_s]; omega
    · show zv_up r.2.2.2.1 r.2.2.1 kk r.2.2.1 ≤ 12
      rw [zv_up_s]; omega
    · exact zv_up_s
    · obtain ⟨k1, l1, u1⟩ := a7 w hw
      obtain ⟨k2, l2, u2⟩ := b7 (s :: w) (hW w hw).1
      have l1 : (k1 : Int) ≤ p - p0 := l1
      refine ⟨k1 + 1 + k2, by show ((k1 + 1 + k2 : Nat) : Int) ≤ r.2.1 - p0; omega, fun n => ?_⟩
      rw [show n + (k1 + 1 + k2) = (n + k2 + 1) + k1 by omega, u1]
      show yp_S T len (n + k2 + 1) false w o p c = _
      rw [one w hw, u2, hM w _ _ b6]
  · refine ⟨⟨r1, r2⟩, ⟨d1, d2⟩, fun h => absurd h e, fun _ w hw => ?_⟩
    obtain ⟨k1, l1, u1⟩ := a7 w hw
    obtain ⟨k2, l2, u2⟩ := rb e (s :: w) (hW w hw).1
    have l1 : (k1 : Int) ≤ p - p0 := l1
    refine ⟨k1 + 1 + k2, by omega, fun n => ?_⟩
    rw [show n + (k1 + 1 + k2) + 1 = ((n + k2 + 1) + 1) + k1 by omega, u1]
    show yp_S T len (n + k2 + 1 + 1) false w o p c = _
    rw [one w hw, u2]
end ZPE
abbrev zRC : Type := Nat → Int → Int → Int → Int → Int → (Int → Int) → (Int → Int) → (Int → Int) → Option (Int × Int × Int × (Int → Int) × (Int → Int))
/-- a reader that goes as the machine goes -/
def yr_is (R : Int → zCD → Option (Int × Int × zCD)) (T : Int → Int) (len o nd : Int) (W : List Int → Prop) (N : Int → Prop) : Prop := ∀ (p : Int) (c : zCD), 0 ≤ p → p ≤ len → 0 ≤ c.1 → c.1 ≤ p → zh_ok (R p c) (yp_E T len o nd W N p c)
section ZRT
variable {rc : zRC} {T : Int → Int} {len o : Int}
theorem yr_term_f {n : Nat} {f p c : Int} {K V : Int → Int} (hf : f ≠ 0) : zm_LawReader_readTerm_l0 rc o len T (n + 1) f p c K V = some (f, p, c, K, V) := by
  show zm_LawReader_readTerm_l0_b rc o len T (zm_LawReader_readTerm_l0 rc o len T n) f p c K V = _
  unfold zm_LawReader_readTerm_l0_b
  rw [if_neg hf]
theorem yr_term_l (hl : len ≤ 200) (ho : o ≤ 6) (hF : yr_is (fun p c => rc 2 o 0 p len c.1 T c.2.1 c.2.2) T len o (13 - 2 * o) yp_al yp_any) {p0 : Int} {c0 : zCD} (h0 : c0.1 ≤ p0) (h00 : 0 ≤ c0.1) : ∀ (m : Nat) (f p : Int) (c : zCD) (n : Nat), len - p ≤ m → m < n → yp_E T len o (14 - 2 * o) yp_tm yp_any p0 c0 (f, p, c) →
    zh_ok (zm_LawReader_readTerm_l0 rc o len T n f p c.1 c.2.1 c.2.2) (yp_E T len o (14 - 2 * o) yp_tm yp_nom p0 c0) := by
  intro m
  induction m with
  | zero =>
    intro f p c n hm hn hs
    obtain ⟨n, rfl⟩ : ∃ q, n = q + 1 := ⟨n - 1, by omega⟩
    by_cases hf : f = 0
    · show zh_ok (zm_LawReader_readTerm_l0_b rc o len T (zm_LawReader_readTerm_l0 rc o len T n) f p c.1 c.2.1 c.2.2) _
      unfold zm_LawReader_readTerm_l0_b
      rw [if_pos hf, if_neg (by omega)]
      exact zh_ret (yp_E_N hs fun _ => by
        show yp_ss (yp_pk T len p) < 4
        unfold yp_pk
        rw [if_neg (by omega)]; decide)
    · rw [yr_term_f hf]
      exact zh_ret (yp_E_N hs fun h => absurd h hf)
  | succ m ih =>
    intro f p c n hm hn hs
    obtain ⟨n, rfl⟩ : ∃ q, n = q + 1 := ⟨n - 1, by omega⟩
    by_cases hf : f = 0
    · subst hf
      by_cases hp : p < len
      · have p1 : 0 ≤ p := hs.1.1
        have c1 : 0 ≤ c.1 := hs.2.1.1
        have cp : c.1 ≤ p := by
          obtain ⟨a1, a2, a3, -⟩ := hs.2.2.1 rfl
          have a1 : p0 < p := a1
          have a3 : c.1 - c0.1 ≤ p - p0 := a3
          omega
        have pk : yp_pk T len p = T p := if_pos hp
        show zh_ok (zm_LawReader_readTerm_l0_b rc o len T (zm_LawReader_readTerm_l0 rc o len T n) 0 p c.1 c.2.1 c.2.2) _
        unfold zm_LawReader_readTerm_l0_b
        rw [if_pos rfl, if_pos hp, zl_ci p1 (by omega), zi_w_id (x := p + 1) (by omega) (by omega)]
        have step : ∀ s kk, 4 ≤ s → s ≤ 6 → kk = s + 3 → yp_ss (T p) = s → zh_ok ((rc 2 o 0 (p + 1) len c.1 T c.2.1 c.2.2).bind fun r7 => ((zf_Law_addStep kk 0 r7.2.2.1 r7.2.2.2.1 r7.2.2.2.2).bind fun r8 => (zm_LawReader_readTerm_l0 rc o len T n r7.1 r7.2.1 r8.2.1 r8.2.2.1 r8.2.2.2))) (yp_E T len o (14 - 2 * o) yp_tm yp_nom p0 c0) := by
          intro s kk s1 s2 hk hss
          refine zh_bind (hF (p + 1) c (by omega) (by omega) c1 (by omega)) fun r hr => ?_
          obtain ⟨q1, q2⟩ := yp_E_step hl h0 hs hp hss (by omega) s2 hk hr (fun w hw => ⟨trivial, by rw [decide_eq_false (by omega)]; exact yp_cl_n hw⟩) (fun w c' p' _ n => by rw [hk]; exact yp_S_mul ⟨s1, s2⟩) (by omega) (by omega)
          by_cases he : r.1 = 0
          · obtain ⟨⟨b1, b2, b3⟩, q1⟩ := q1 he
            rw [ze_addStep b1 b2, zl_b, he]
            exact ih 0 r.2.1 (yp_em kk 0 r.2.2) n (by omega) (by omega) q1
          · obtain ⟨a, c', K', V', e1, e2, e3, -⟩ := ze_addStep_a (k := kk) (v := 0) (K := r.2.2.2.1) (V := r.2.2.2.2) hr.2.1.1 hr.2.1.2
            rw [e1, zl_b]
            obtain ⟨n, rfl⟩ : ∃ q, n = q + 1 := ⟨n - 1, by omega⟩
            rw [yr_term_f he]
            exact zh_ret (yp_E_N (q2 he (c', K', V') e2 e3) fun h => absurd h he)
        by_cases h42 : T p = 42
        · rw [if_pos h42]
          exact step 4 7 (by decide) (by decide) rfl (by rw [h42]; rfl)
        rw [if_neg h42]
        by_cases h47 : T p = 47
        · rw [if_pos h47]
          exact step 5 8 (by decide) (by decide) rfl (by rw [h47]; rfl)
        rw [if_neg h47]
        by_cases h37 : T p = 37
        · rw [if_pos h37]
          exact step 6 9 (by decide) (by decide) rfl (by rw [h37]; rfl)
        rw [if_neg h37]
        exact zh_ret (yp_E_N hs fun _ => by
          show yp_ss (yp_pk T len p) < 4
          rw [pk]
          unfold yp_ss
          rw [if_neg h42, if_neg h47, if_neg h37]
          (repeat' split) <;> decide)
      · show zh_ok (zm_LawReader_readTerm_l0_b rc o len T (zm_LawReader_readTerm_l0 rc o len T n) 0 p c.1 c.2.1 c.2.2) _
        unfold zm_LawReader_readTerm_l0_b
        rw [if_pos rfl, if_neg hp]
        exact zh_ret (yp_E_N hs fun _ => by
          show yp_ss (yp_pk T len p) < 4
          unfold yp_pk
          rw [if_neg hp]; decide)
    · rw [yr_term_f hf]
      exact zh_ret (yp_E_N hs fun h => absurd h hf)
theorem yr_term (hl : len ≤ 200) (ho : o ≤ 6) (hF : yr_is (fun p c => rc 2 o 0 p len c.1 T c.2.1 c.2.2) T len o (13 - 2 * o) yp_al yp_any) : yr_is (fun p c => zm_LawReader_readTerm rc o 0 p len c.1 T c.2.1 c.2.2) T len o (14 - 2 * o) yp_tm yp_nom := by
  intro p c p1 p2 c1 c2
  show zh_ok (zm_LawReader_readTerm rc o 0 p len c.1 T c.2.1 c.2.2) _
  unfold zm_LawReader_readTerm
  refine zh_bind (hF p c p1 p2 c1 c2) fun r hr => ?_
  refine zh_bind (yr_term_l hl ho hF c2 c1 (len - r.2.1).toNat r.1 r.2.1 r.2.2 zi_fu (by omega) (by have := hr.1.1; have : 1000 < zi_fu := (by decide); omega) (yp_E_W hr (by omega) fun _ _ => trivial)) fun q hq => zh_ret hq
/-! sums -/
theorem yr_sum_f {n : Nat} {f p c : Int} {K V : Int → Int} (hf : f ≠ 0) : zm_LawReader_readSum_l0 rc o len T (n + 1) f p c K V = some (f, p, c, K, V) := by
  show zm_LawReader_readSum_l0_b rc o len T (zm_LawReader_readSum_l0 rc o len T n) f p c K V = _
  unfold zm_LawReader_readSum_l0_b
  rw [if_neg hf]
theorem yr_sum_l (hl : len ≤ 200) (ho : o ≤ 6) (hF : yr_is (fun p c => rc 1 o 0 p len c.1 T c.2.1 c.2.2) T len o (14 - 2 * o) yp_tm yp_nom) {p0 : Int} {c0 : zCD} (h0 : c0.1 ≤ p0) (h00 : 0 ≤ c0.1) : ∀ (m : Nat) (f p : Int) (c : zCD) (n : Nat), len - p ≤ m → m < n → yp_E T len o (15 - 2 * o) yp_ta yp_nom p0 c0 (f, p, c) →
    zh_ok (zm_LawReader_readSum_l0 rc o len T n f p c.1 c.2.1 c.2.2) (yp_E T len o (15 - 2 * o) yp_ta yp_nos p0 c0) := by
  intro m
  induction m with
  | zero =>
    intro f p c n hm hn hs
    obtain ⟨n, rfl⟩ : ∃ q, n = q + 1 := ⟨n - 1, by omega⟩
    by_cases hf : f = 0
    · show zh_ok (zm_LawReader_readSum_l0_b rc o len T (zm_LawReader_readSum_l0 rc o len T n) f p c.1 c.2.1 c.2.2) _
      unfold zm_LawReader_readSum_l0_b
      rw [if_pos hf, if_neg (by omega)]
      exact zh_ret (yp_E_N hs fun _ => by
        show yp_ss (yp_pk T len p) = -1
        unfold yp_pk
        rw [if_neg (by omega)]; decide)
    · rw [yr_sum_f hf]
      exact zh_ret (yp_E_N hs fun h => absurd h hf)
  | succ m ih =>
    intro f p c n hm hn hs
    obtain ⟨n, rfl⟩ : ∃ q, n = q + 1 := ⟨n - 1, by omega⟩
    by_cases hf : f = 0
    · subst hf
      by_cases hp : p < len
      · have p1 : 0 ≤ p := hs.1.1
        have c1 : 0 ≤ c.1 := hs.2.1.1
        have hN : yp_nom (yp_pk T len p) := (hs.2.2.1 rfl).2.2.2.2.2.1
        have cp : c.1 ≤ p := by
          obtain ⟨a1, a2, a3, -⟩ := hs.2.2.1 rfl
          have a1 : p0 < p := a1
          have a3 : c.1 - c0.1 ≤ p - p0 := a3
          omega
        have pk : yp_pk T len p = T p := if_pos hp
        show zh_ok (zm_LawReader_readSum_l0_b rc o len T (zm_LawReader_readSum_l0 rc o len T n) 0 p c.1 c.2.1 c.2.2) _
        unfold zm_LawReader_readSum_l0_b
        rw [if_pos rfl, if_pos hp, zl_ci p1 (by omega), zi_w_id (x := p + 1) (by omega) (by omega)]
        have step : ∀ s kk, 2 ≤ s → s ≤ 3 → kk = s + 3 → yp_ss (T p) = s → zh_ok ((rc 1 o 0 (p + 1) len c.1 T c.2.1 c.2.2).bind fun r7 => ((zf_Law_addStep kk 0 r7.2.2.1 r7.2.2.2.1 r7.2.2.2.2).bind fun r8 => (zm_LawReader_readSum_l0 rc o len T n r7.1 r7.2.1 r8.2.1 r8.2.2.1 r8.2.2.2))) (yp_E T len o (15 - 2 * o) yp_ta yp_nos p0 c0) := by
          intro s kk s1 s2 hk hss
          refine zh_bind (hF (p + 1) c (by omega) (by omega) c1 (by omega)) fun r hr => ?_
          obtain ⟨q1, q2⟩ := yp_E_step hl h0 hs hp hss (by omega) (by omega) hk hr (fun w hw => ⟨fun s' w' e => (by cases e; omega), by rw [decide_eq_true (by omega)]; exact yp_cl_a hw⟩) (fun w c' p' hN n => by rw [hk]; exact yp_S_add (by omega) hN) (by omega) (by omega)
          by_cases he : r.1 = 0
          · have hN2 := (hr.2.2.1 he).2.2.2.2.2.1
            obtain ⟨⟨b1, b2, b3⟩, q1⟩ := q1 he
            rw [ze_addStep b1 b2, zl_b, he]
            exact ih 0 r.2.1 (yp_em kk 0 r.2.2) n (by omega) (by omega) (yp_E_N q1 fun _ => hN2)
          · obtain ⟨a, c', K', V', e1, e2, e3, -⟩ := ze_addStep_a (k := kk) (v := 0) (K := r.2.2.2.1) (V := r.2.2.2.2) hr.2.1.1 hr.2.1.2
            rw [e1, zl_b]
            obtain ⟨n, rfl⟩ : ∃ q, n = q + 1 := ⟨n - 1, by omega⟩
            rw [yr_sum_f he]
            exact zh_ret (yp_E_N (q2 he (c', K', V') e2 e3) fun h => absurd h he)
        by_cases h43 : T p = 43
        · rw [if_pos h43]
          exact step 2 5 (by decide) (by decide) rfl (by rw [h43]; rfl)
        rw [if_neg h43]
        by_cases h45 : T p = 45
        · rw [if_pos h45]
          exact step 3 6 (by decide) (by decide) rfl (by rw [h45]; rfl)
        rw [if_neg h45]
        exact zh_ret (yp_E_N hs fun _ => by
          show yp_ss (yp_pk T len p) = -1
          have hN : yp_ss (yp_pk T len p) < 4 := hN
          rw [pk] at hN ⊢
          unfold yp_ss at hN ⊢
          rw [if_neg h43, if_neg h45] at hN ⊢
          split
          · rename_i h; rw [if_pos h] at hN; exact absurd hN (by decide)
          · rename_i h; rw [if_neg h] at hN
            split
            · rename_i h; rw [if_pos h] at hN; exact absurd hN (by decide)
            · rename_i h; rw [if_neg h] at hN
              split
              · rename_i h; rw [if_pos h] at hN; exact absurd hN (by decide)
              · rfl)
      · show zh_ok (zm_LawReader_readSum_l0_b rc o len T (zm_LawReader_readSum_l0 rc o len T n) 0 p c.1 c.2.1 c.2.2) _
        unfold zm_LawReader_readSum_l0_b
        rw [if_pos rfl, if_neg hp]
        exact zh_ret (yp_E_N hs fun _ => by
          show yp_ss (yp_pk T len p) = -1
          unfold yp_pk
          rw [if_neg hp]; decide)
    · rw [yr_sum_f hf]
      exact zh_ret (yp_E_N hs fun h => absurd h hf)
theorem yr_sum (hl : len ≤ 200) (ho : o ≤ 6) (hF : yr_is (fun p c => rc 1 o 0 p len c.1 T c.2.1 c.2.2) T len o (14 - 2 * o) yp_tm yp_nom) : yr_is (fun p c => zm_LawReader_readSum rc o 0 p len c.1 T c.2.1 c.2.2) T len o (15 - 2 * o) yp_ta yp_nos := by
  intro p c p1 p2 c1 c2
  show zh_ok (zm_LawReader_readSum rc o 0 p len c.1 T c.2.1 c.2.2) _
  unfold zm_LawReader_readSum
  refine zh_bind (hF p c p1 p2 c1 c2) fun r hr => ?_
  refine zh_bind (yr_sum_l hl ho hF c2 c1 (len - r.2.1).toNat r.1 r.2.1 r.2.2 zi_fu (by omega) (by have := hr.1.1; have : 1000 < zi_fu := (by decide); omega) (yp_E_W hr (by omega) fun w hw s w' e => by have := hw s w' e; omega)) fun q hq => zh_ret hq
/-! a factor -/
theorem yr_fact (hl : len ≤ 200) (ho : o ≤ 6) (oo : 0 ≤ o) (hT : ∀ j, 0 ≤ j → j < 220 → 0 ≤ T j ∧ T j ≤ 255) (hS : o < 6 → yr_is (fun p c => rc 0 (o + 1) 0 p len c.1 T c.2.1 c.2.2) T len (o + 1) (15 - 2 * (o + 1)) yp_ta yp_nos) : yr_is (fun p c => zm_LawReader_readFactor rc o 0 p len c.1 T c.2.1 c.2.2) T len o (13 - 2 * o) yp_al yp_any := by
  intro p c p1 p2 c1 c2
  show zh_ok (zm_LawReader_readFactor rc o 0 p len c.1 T c.2.1 c.2.2) _
  unfold zm_LawReader_readFactor
  rw [if_pos rfl, ze_peek p1 (by omega), zl_b]
  by_cases h91 : yp_pk T len p = 91
  · have hp : p < len := yp_pk_lt (T := T) (by omega)
    rw [if_pos h91]
    by_cases ho6 : o < 6
    · rw [if_pos ho6, zi_w_id (x := o + 1) (by omega) (by omega), zi_w_id (x := p + 1) (by omega) (by omega)]
      refine zh_bind (hS ho6 (p + 1) c (by omega) (by omega) c1 (by omega)) fun r hr => ?_
      obtain ⟨⟨r1, r2⟩, ⟨r3, r4⟩, ro, rb⟩ := hr
      have one : ∀ w n, yp_S T len (n + 1) true w o p c = yp_S T len n true (14 :: w) (o + 1) (p + 1) c := fun w n => by
        rw [yp_S_t, if_pos h91, if_neg (by omega)]
      have ta : ∀ w, yp_ta (14 :: w) := fun w s w' e => by cases e; omega
      by_cases he : r.1 = 0
      · obtain ⟨b1, b2, b3, b4, ⟨ρ, b5⟩, b6, b7⟩ := ro he
        rw [he, ze_skip r1 (by omega) (by omega), zl_b]
        have b6 : yp_ss (yp_pk T len r.2.1) = -1 := b6
        by_cases h93 : yp_pk T len r.2.1 = 93
        · have hp3 : r.2.1 < len := yp_pk_lt (T := T) (by omega)
          rw [if_pos h93]
          refine zh_ret ⟨⟨?_, ?_⟩, ⟨r3, r4⟩, fun _ => ⟨?_, b2, ?_, b4, ⟨ρ, zd_seg_nd b5 (by omega)⟩, trivial, fun w _ => ?_⟩, fun h => absurd rfl h⟩
          · show 0 ≤ r.2.1 + 1; omega
          · show r.2.1 + 1 ≤ len; omega
          · show p < r.2.1 + 1; omega
          · show r.2.2.1 - c.1 ≤ r.2.1 + 1 - p; omega
          · obtain ⟨k, l, u⟩ := b7 (14 :: w) (ta w)
            refine ⟨1 + k + 1, by show ((1 + k + 1 : Nat) : Int) ≤ r.2.1 + 1 - p; omega, fun n => ?_⟩
            rw [show n + (1 + k + 1) = (n + 1 + k) + 1 by omega, one, u, yp_S_f, b6, if_neg (fun h => h rfl), if_pos (List.mem_cons_self), if_pos h93, yp_cl_a (ta w), show o + 1 - 1 = o by omega]
            rfl
        · rw [if_neg h93]
          refine zh_ret ⟨⟨r1, r2⟩, ⟨r3, r4⟩, fun h => ?_, fun _ w _ => ?_⟩
          · have h : -1000 - r.2.1 = 0 := h
            omega
          · obtain ⟨k, l, u⟩ := b7 (14 :: w) (ta w)
            refine ⟨1 + k, by omega, fun n => ?_⟩
            rw [show n + (1 + k) + 1 = (n + 1 + k) + 1 by omega, one, u, yp_S_f, b6, if_neg (fun h => h rfl), if_pos (List.mem_cons_self), if_neg h93]
      · rw [ze_skipf he, zl_b]
        refine zh_ret ⟨⟨r1, r2⟩, ⟨r3, r4⟩, fun h => absurd h he, fun _ w _ => ?_⟩
        obtain ⟨k, l, u⟩ := rb he (14 :: w) (ta w)
        refine ⟨1 + k, by omega, fun n => ?_⟩
        rw [show n + (1 + k) + 1 = (n + k + 1) + 1 by omega, one, u]
    · rw [if_neg ho6, ze_fail p1 (by omega) (by decide) (by decide), zl_b]
      refine zh_ret ⟨⟨p1, p2⟩, ⟨c1, (show c.1 ≤ 200 by omega)⟩, fun h => ?_, fun _ w _ => ⟨0, by omega, fun n => ?_⟩⟩
      · have h : -1000 * 5 - p = 0 := h
        omega
      · show yp_S T len (n + 1) true w o p c = some (.inl (-1000 * 5 - p))
        rw [yp_S_t, if_pos h91, if_pos (by omega)]
        rfl
  · rw [if_neg h91, ze_isDigit, zl_b]
    by_cases hd : yp_dg (yp_pk T len p) = true
    · rw [if_pos hd, if_neg (by decide)]
      have hdd := yp_dg_t.mp hd
      have hp : p < len := yp_pk_lt (T := T) (by omega)
      obtain ⟨a1, a2, a3, a4⟩ := yp_nm_in (T := T) (len := len) 5 0 p (by decide) (by decide) (by decide) p2
      have a5 := yp_nm_lt (T := T) (k := 4) hd (by decide) (by decide : (0 : Int) ≤ 0) (by decide)
      rw [ze_readNumber hl p1 p2 c1 (by omega), zl_b]
      have a5 : p < (yp_nm T len 5 0 p).2 := a5
      generalize hq : yp_nm T len 5 0 p = q at a1 a2 a3 a4 a5 ⊢
      by_cases h6 : yp_dg (yp_pk T len q.2) = true
      · rw [if_pos h6]
        refine zh_ret ⟨⟨?_, a4⟩, ⟨?_, ?_⟩, fun h => ?_, fun _ w _ => ⟨0, by omega, fun n => ?_⟩⟩
        · show 0 ≤ q.2; omega
        · show 0 ≤ c.1 + 1; omega
        · show c.1 + 1 ≤ 200; omega
        · have h : -2000 - q.2 = 0 := h
          omega
        · show yp_S T len (n + 1) true w o p c = some (.inl (-2000 - q.2))
          rw [yp_S_t, if_neg h91, if_pos hd, hq, if_pos h6]
      · rw [if_neg h6]
        refine zh_ret ⟨⟨?_, a4⟩, ⟨?_, ?_⟩, fun _ => ⟨a5, ?_, ?_, fun j hj => ⟨zv_up_n (by omega), zv_up_n (by omega)⟩, ⟨_, zd_seg_nd (zg_num (K := zv_up c.2.1 c.1 0) (V := zv_up c.2.2 c.1 q.1) c1 zv_up_s (by rw [zv_up_s]; omega) (by rw [zv_up_s]; omega)) (by omega)⟩, trivial, fun w _ => ⟨1, ?_, fun n => ?_⟩⟩, fun h => absurd rfl h⟩
        · show 0 ≤ q.2; omega
        · show 0 ≤ c.1 + 1; omega
        · show c.1 + 1 ≤ 200; omega
        · show c.1 < c.1 + 1; omega
        · show c.1 + 1 - c.1 ≤ q.2 - p; omega
        · show ((1 : Nat) : Int) ≤ q.2 - p; omega
        · rw [yp_S_t, if_neg h91, if_pos hd, hq, if_neg h6]
          rfl
    · rw [if_neg hd, if_pos rfl]
      by_cases hm : yp_pk T len p = -1
      · rw [if_pos hm, ze_fail p1 (by omega) (by decide) (by decide), zl_b]
        refine zh_ret ⟨⟨p1, p2⟩, ⟨c1, (show c.1 ≤ 200 by omega)⟩, fun h => ?_, fun _ w _ => ⟨0, by omega, fun n => ?_⟩⟩
        · have h : -1000 * 1 - p = 0 := h
          omega
        · show yp_S T len (n + 1) true w o p c = some (.inl (-1000 * 1 - p))
          rw [yp_S_t, if_neg h91, if_neg hd, hm, if_pos (by decide)]
          rfl
      · have hp : p < len := yp_pk_lt hm
        have pk : yp_pk T len p = T p := if_pos hp
        have hTp := hT p p1 (by omega)
        rw [if_neg hm, ze_letter (by omega) (by omega)]
        by_cases hl1 : yp_lt (yp_pk T len p) = -1
        · rw [if_pos hl1, ze_fail p1 (by omega) (by decide) (by decide), zl_b]
          refine zh_ret ⟨⟨p1, p2⟩, ⟨c1, (show c.1 ≤ 200 by omega)⟩, fun h => ?_, fun _ w _ => ⟨0, by omega, fun n => ?_⟩⟩
          · have h : -1000 * 1 - p = 0 := h
            omega
          · show yp_S T len (n + 1) true w o p c = some (.inl (-1000 * 1 - p))
            rw [yp_S_t, if_neg h91, if_neg hd, if_pos hl1]
            rfl
        · have hli : 0 ≤ yp_lt (yp_pk T len p) ∧ yp_lt (yp_pk T len p) < 13 := (yp_lt_in _).resolve_left hl1
          rw [if_neg hl1, ze_addStep c1 (by omega), zl_b, zi_w_id (x := p + 1) (by omega) (by omega)]
          refine zh_ret ⟨⟨?_, ?_⟩, ⟨?_, ?_⟩, fun _ => ⟨?_, ?_, ?_, fun j hj => ⟨zv_up_n (by omega), zv_up_n (by omega)⟩, ⟨_, zd_seg_nd (zg_let (K := zv_up c.2.1 c.1 1) (V := zv_up c.2.2 c.1 (yp_lt (yp_pk T len p))) c1 zv_up_s (by rw [zv_up_s]; omega) (by rw [zv_up_s]; omega)) (by omega)⟩, trivial, fun w _ => ⟨1, ?_, fun n => ?_⟩⟩, fun h => absurd rfl h⟩
          · show 0 ≤ p + 1; omega
          · show p + 1 ≤ len; omega
          · show 0 ≤ c.1 + 1; omega
          · show c.1 + 1 ≤ 200; omega
          · show p < p + 1; omega
          · show c.1 < c.1 + 1; omega
          · show c.1 + 1 - c.1 ≤ p + 1 - p; omega
          · show ((1 : Nat) : Int) ≤ p + 1 - p; omega
          · rw [yp_S_t, if_neg h91, if_neg hd, if_neg hl1]
            rfl
end ZRT
/-- the whole family, by how many are left -/
theorem yr_all {T : Int → Int} {len : Int} (hl : len ≤ 200) (hT : ∀ j, 0 ≤ j → j < 220 → 0 ≤ T j ∧ T j ≤ 255) : ∀ (d : Nat) (o : Int), o + d = 6 → 0 ≤ o → ∀ n, yr_is (fun p c => zg_LawReader_readSum (n + 3 * d + 3) 0 o 0 p len c.1 T c.2.1 c.2.2) T len o (15 - 2 * o) yp_ta yp_nos := by
  intro d
  induction d with
  | zero =>
    intro o ho oo n
    refine yr_sum (rc := zg_LawReader_readSum (n + 2)) hl (by omega) ?_
    refine yr_term (rc := zg_LawReader_readSum (n + 1)) hl (by omega) ?_
    exact yr_fact (rc := zg_LawReader_readSum n) hl (by omega) oo hT fun h => absurd h (by omega)
  | succ d ih =>
    intro o ho oo n
    refine yr_sum (rc := zg_LawReader_readSum (n + 3 * (d + 1) + 2)) hl (by omega) ?_
    refine yr_term (rc := zg_LawReader_readSum (n + 3 * (d + 1) + 1)) hl (by omega) ?_
    refine yr_fact (rc := zg_LawReader_readSum (n + 3 * (d + 1))) hl (by omega) oo hT fun _ => ?_
    exact ih (o + 1) (by omega) (by omega) n
theorem yr_readSum {T : Int → Int} {len o : Int} (hl : len ≤ 200) (hT : ∀ j, 0 ≤ j → j < 220 → 0 ≤ T j ∧ T j ≤ 255) (o1 : 0 ≤ o) (o2 : o ≤ 6) : yr_is (fun p c => zf_LawReader_readSum o 0 p len c.1 T c.2.1 c.2.2) T len o (15 - 2 * o) yp_ta yp_nos := by
  have h := yr_all hl hT (6 - o).toNat o (by omega) o1 (27 - 3 * (6 - o).toNat)
  rw [show 27 - 3 * (6 - o).toNat + 3 * (6 - o).toNat + 3 = 30 by omega] at h
  exact h
