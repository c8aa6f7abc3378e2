/-! A clause, read by the reference. -/
section YMC
variable {T M : Int → Int} {len : Int}
theorem ym_cond (hT : yk_T T M) (hl : len ≤ 200) {k p : Int} {c : zCD} {f m num o kk : Int} {W D : Int → Int} {R : Int ⊕ (Int × zCD × Int × Int)} (h : yp_CT T len k p c = some R) (hc : yk_c c m D) (p1 : 0 ≤ p) (p2 : p ≤ len) (cp : c.1 ≤ p) :
    zh_ok (zf_M_readsCondition p len o kk f m num M W D) (fun t => (t.1 = 0 ∧ R = .inl t.2.2.2.2.1) ∨ (t.1 = 1 ∧ ∃ c', R = .inr (t.2.1, c', k, c.1) ∧ yk_c c' t.2.2.2.2.2.1 t.2.2.2.2.2.2.2.2 ∧ (0 ≤ t.2.1 ∧ t.2.1 ≤ len) ∧ c'.1 ≤ t.2.1)) := by
  unfold yp_CT at h
  by_cases h40 : yp_pk T len p = 40
  · rw [if_pos h40] at h
    obtain ⟨q, hq, h⟩ := zi_bind h
    refine zh_mono (ys_cond hT hl h40 hq (by decide) hc p1 cp) fun t ht => ?_
    rcases ht with ⟨t1, t2⟩ | ⟨t1, c', t2, t3⟩
    · subst t2
      simp only [Sum.elim_inl] at h
      cases h
      exact Or.inl ⟨t1, rfl⟩
    · subst t2
      simp only [Sum.elim_inr] at h
      cases h
      exact Or.inr ⟨t1, c', rfl, t3⟩
  · rw [if_neg h40] at h
    cases h
    rw [ys_condN hT hl h40 p1 p2]
    exact zh_ret (Or.inl ⟨rfl, rfl⟩)
theorem ze_isClause {c : Int} : zf_M_isClause c = some (if yp_kd c = true then 1 else 0) := by
  unfold zf_M_isClause
  by_cases h1 : c = 118
  · subst h1; rfl
  rw [if_neg h1]
  by_cases h2 : c = 106
  · subst h2; rfl
  rw [if_neg h2]
  by_cases h3 : c = 119
  · subst h3; rfl
  rw [if_neg h3]
  by_cases h4 : c = 103
  · subst h4; rfl
  rw [if_neg h4]
  by_cases h5 : c = 113
  · subst h5; rfl
  rw [if_neg h5, if_neg]
  intro h
  rcases (of_decide_eq_true h : c = 118 ∨ c = 106 ∨ c = 119 ∨ c = 103 ∨ c = 113) with h | h | h | h | h
  · exact h1 h
  · exact h2 h
  · exact h3 h
  · exact h4 h
  · exact h5 h
abbrev zMO : Type := Int × Int × Int × Int × Int × Int × Int × Int × (Int → Int) × (Int → Int) × (Int → Int) × (Int → Int) × (Int → Int) × (Int → Int)
def ym_ok (T : Int → Int) (len nc p : Int) (c : zCD) (g1 g2 g3 g6 : Int → Int) (R : Int ⊕ (Int × zCD × Int × Int)) (t : zMO) : Prop :=
  (t.1 = 0 ∧ R = .inl t.2.2.2.2.2.2.1) ∨ (t.1 = 1 ∧ ∃ c' h, R = .inr (t.2.1, c', yp_pk T len p, h) ∧ t.2.2.1 = nc + 1 ∧ yk_c c' t.2.2.2.1 t.2.2.2.2.2.2.2.2.2.2.2.2.1 ∧ ((0 ≤ t.2.1 ∧ t.2.1 ≤ len) ∧ c'.1 ≤ t.2.1) ∧
    t.2.2.2.2.2.2.2.2.1 = zv_up g1 nc (yp_pk T len p) ∧ t.2.2.2.2.2.2.2.2.2.1 = zv_up g2 nc c.1 ∧ t.2.2.2.2.2.2.2.2.2.2.1 = zv_up g3 nc h ∧ t.2.2.2.2.2.2.2.2.2.2.2.2.2 = zv_up g6 nc c'.1)
theorem ym_clause (hT : yk_T T M) (hl : len ≤ 200) {nc p : Int} {c : zCD} {m o k f num : Int} {g1 g2 g3 W D g6 : Int → Int} {R : Int ⊕ (Int × zCD × Int × Int)} (h : yp_CL T len nc p c = some R) (hc : yk_c c m D) (n1 : 0 ≤ nc) (n2 : nc ≤ 14) (p1 : 0 ≤ p) (p2 : p ≤ len) (cp : c.1 ≤ p) :
    zh_ok (zf_M_readsClause p len nc m o k f num M g1 g2 g3 W D g6) (ym_ok T len nc p c g1 g2 g3 g6 R) := by
  unfold yp_CL at h
  unfold zf_M_readsClause
  rw [ze_here hT p1 (by omega), zl_b, ze_isClause, zl_b]
  obtain ⟨me, m0⟩ := hc.1
  by_cases hk : yp_kd (yp_pk T len p) = true
  · rw [if_pos hk] at h
    rw [if_pos hk, if_neg (by decide)]
    by_cases h14 : nc = 14
    · rw [if_pos h14] at h
      cases h
      rw [if_pos h14, ze_wrong p1 (by omega) (by decide) (by decide), zl_b]
      exact zh_ret (Or.inl ⟨rfl, rfl⟩)
    · rw [if_neg h14] at h
      have hkd : yp_pk T len p = 118 ∨ yp_pk T len p = 106 ∨ yp_pk T len p = 119 ∨ yp_pk T len p = 103 ∨ yp_pk T len p = 113 := of_decide_eq_true hk
      have hp : p < len := yp_pk_lt (T := T) (by omega)
      rw [if_neg h14, zl_ci n1 (by omega), zi_w_id (x := p + 1) (by omega) (by omega), zi_w_id (x := nc + 1) (by omega) (by omega)]
      have pln : ¬ yp_ka (yp_pk T len p) = true → zh_ok ((zf_M_readsCondition (p + 1) len 0 0 f m num M W D).bind fun r7 => (if r7.1 = 0 then (some ((0 : Int), r7.2.1, nc, r7.2.2.2.2.2.1, r7.2.2.1, r7.2.2.2.1, r7.2.2.2.2.1, r7.2.2.2.2.2.2.1, (zv_up g1 nc (yp_pk T len p)), (zv_up g2 nc m), (zv_up g3 nc m), r7.2.2.2.2.2.2.2.1, r7.2.2.2.2.2.2.2.2, g6)) else (some ((1 : Int), r7.2.1, nc + 1, r7.2.2.2.2.2.1, r7.2.2.1, r7.2.2.2.1, r7.2.2.2.2.1, r7.2.2.2.2.2.2.1, (zv_up g1 nc (yp_pk T len p)), (zv_up g2 nc m), (zv_up g3 nc m), r7.2.2.2.2.2.2.2.1, r7.2.2.2.2.2.2.2.2, (zv_up g6 nc r7.2.2.2.2.2.1))))) (ym_ok T len nc p c g1 g2 g3 g6 R) := by
        intro hka
        rw [if_neg hka] at h
        refine zh_bind (ym_cond hT hl h hc (by omega) (by omega) (by omega)) fun t ht => ?_
        rcases ht with ⟨t1, t2⟩ | ⟨t1, c', t2, t3, t4, t5⟩
        · rw [if_pos t1]
          exact zh_ret (Or.inl ⟨rfl, t2⟩)
        · rw [if_neg (by omega)]
          obtain ⟨me2, _⟩ := t3.1
          exact zh_ret (Or.inr ⟨rfl, c', c.1, t2, rfl, t3, ⟨t4, t5⟩, rfl, by rw [me], by rw [me], by rw [me2]⟩)
      by_cases h118 : yp_pk T len p = 118
      · rw [if_pos h118]
        exact pln (by rw [h118]; decide)
      rw [if_neg h118]
      by_cases h106 : yp_pk T len p = 106
      · rw [if_pos h106]
        exact pln (by rw [h106]; decide)
      rw [if_neg h106]
      have hka : yp_ka (yp_pk T len p) = true := decide_eq_true (by omega)
      rw [if_pos hka] at h
      obtain ⟨q, hq, h⟩ := zi_bind h
      refine zh_bind (ys_sum (b := 0) (sl := 0) hT hl (by decide) hq (by decide) (Or.inl rfl) hc (by omega) (by omega) (by omega) (by show c.1 + ((0 : Nat) : Int) ≤ p + 1; omega) (by decide) (by decide)) fun t ht => ?_
      rcases ht with ⟨t1, t2⟩ | ⟨t1, c1, t2, t3, t4, t5, ⟨t6, t7⟩, t8, ⟨t9, t11⟩, t10⟩
      · subst t2
        simp only [Sum.elim_inl] at h
        cases h
        rw [if_pos t1]
        exact zh_ret (Or.inl ⟨rfl, rfl⟩)
      · subst t2
        simp only [Sum.elim_inr] at h
        obtain ⟨me1, _⟩ := t5.1
        rw [if_neg (by omega)]
        have t9 : c1.1 + ((0 : Nat) : Int) ≤ t.2.2.1 := t9
        refine zh_bind (ym_cond hT hl h t5 t6 t7 (by omega)) fun u hu => ?_
        rcases hu with ⟨u1, u2⟩ | ⟨u1, c', u2, u3, u4, u5⟩
        · rw [if_pos u1]
          exact zh_ret (Or.inl ⟨rfl, u2⟩)
        · rw [if_neg (by omega)]
          obtain ⟨me2, _⟩ := u3.1
          exact zh_ret (Or.inr ⟨rfl, c', c1.1, u2, rfl, u3, ⟨u4, u5⟩, rfl, by rw [me], by rw [me1], by rw [me2]⟩)
  · rw [if_neg hk] at h
    cases h
    rw [if_neg hk, if_pos rfl, ze_wrong p1 (by omega) (by decide) (by decide), zl_b]
    exact zh_ret (Or.inl ⟨rfl, rfl⟩)
end YMC
