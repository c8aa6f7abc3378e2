/-! A clause, read by the class, and by the reference, as one text says. -/
def yp_CT (T : Int → Int) (len k p : Int) (c : zCD) : Option (Int ⊕ (Int × zCD × Int × Int)) := if yp_pk T len p = 40 then (yp_C T len 1000 true [(13, 0)] 1 (p + 1) c).bind fun r => Sum.elim (fun f => some (.inl f)) (fun q => some (.inr (q.1, q.2, k, c.1))) r else some (.inl (-1000 - p))
def yp_kd (k : Int) : Bool := decide (k = 118 ∨ k = 106 ∨ k = 119 ∨ k = 103 ∨ k = 113)
def yp_ka (k : Int) : Bool := decide (k = 119 ∨ k = 103 ∨ k = 113)
def yp_CL (T : Int → Int) (len nc p : Int) (c : zCD) : Option (Int ⊕ (Int × zCD × Int × Int)) :=
  if yp_kd (yp_pk T len p) = true then (if nc = 14 then some (.inl (-4000 - p)) else if yp_ka (yp_pk T len p) = true then (yp_S T len 1000 true [] 0 (p + 1) c).bind fun r => Sum.elim (fun f => some (.inl f)) (fun q => yp_CT T len (yp_pk T len p) q.1 q.2) r else yp_CT T len (yp_pk T len p) (p + 1) c)
  else some (.inl (-1000 - p))
abbrev zXO : Type := Int × Int × Int × Int × Int × Int × Int × Int × (Int → Int) × (Int → Int) × (Int → Int) × (Int → Int) × (Int → Int) × (Int → Int)
/-- what the class leaves of a clause that is read well -/
def yx_ok (p0 : Int) (c0 : zCD) (nc k f : Int) (ρE : Option ((Int → Int) → Option Int)) (tL lP tS sP : Int) (kd fr hf to : Int → Int) (len p h : Int) (c : zCD) (o : zXO) : Prop :=
  (o.2.1 = p ∧ p0 < p ∧ p ≤ len) ∧ o.2.2.1 = nc + 1 ∧ (o.2.2.2.1 = c.1 ∧ o.2.2.2.2.2.2.2.2.1 = c.2.1 ∧ o.2.2.2.2.2.2.2.2.2.1 = c.2.2) ∧ (c0.1 ≤ h ∧ h < c.1 ∧ c.1 - c0.1 ≤ p - p0 ∧ ∀ j, j < c0.1 → c.2.1 j = c0.2.1 j ∧ c.2.2 j = c0.2.2 j) ∧
  (o.2.2.2.2.2.2.2.2.2.2.1 = zv_up kd nc k ∧ o.2.2.2.2.2.2.2.2.2.2.2.1 = zv_up fr nc f ∧ o.2.2.2.2.2.2.2.2.2.2.2.2.1 = zv_up hf nc h ∧ o.2.2.2.2.2.2.2.2.2.2.2.2.2 = zv_up to nc c.1) ∧
  yl_mk c.2.1 c.2.2 k h c.1 tL lP tS sP o.2.2.2.2.1 o.2.2.2.2.2.1 o.2.2.2.2.2.2.1 o.2.2.2.2.2.2.2.1 ∧ (∃ ρC, zd_seg true c.2.1 c.2.2 h c.1 16 ρC) ∧ (match ρE with | none => True | some ρ => zd_seg false c.2.1 c.2.2 f h 16 ρ)
section YXC
variable {T : Int → Int} {len : Int}
theorem yx_tail (hl : len ≤ 200) (hT : ∀ j, 0 ≤ j → j < 220 → 0 ≤ T j ∧ T j ≤ 255) {p0 : Int} {c0 : zCD} {nc k f1 tL lP tS sP p f : Int} {kd fr hf to : Int → Int} {c : zCD} {ρE : Option ((Int → Int) → Option Int)} (n1 : 0 ≤ nc) (n2 : nc < 14) (hp : p0 ≤ p) (p0' : 0 ≤ p0) (p2 : p ≤ len) (c00 : 0 ≤ c0.1) (c2 : f = 0 → c0.1 ≤ c.1 ∧ c.1 - c0.1 ≤ p - p0 ∧ c.1 ≤ p ∧ f1 ≤ c.1) (c1 : 0 ≤ c.1 ∧ c.1 ≤ 200)
    (hk : f = 0 → ∀ j, j < c0.1 → c.2.1 j = c0.2.1 j ∧ c.2.2 j = c0.2.2 j) (hE : f = 0 → match ρE with | none => True | some ρ => zd_seg false c.2.1 c.2.2 f1 c.1 16 ρ) :
    zh_ok ((zf_LawReader_skip 40 f p len T).bind fun r8 => ((zf_LawReader_readCondition 1 r8.1 r8.2 len c.1 T c.2.1 c.2.2).bind fun r9 => ((zf_LawReader_skip 41 r9.1 r9.2.1 len T).bind fun r10 => ((zf_Law_addClause k f1 c.1 nc r9.2.2.1 tL lP tS sP kd fr hf to r9.2.2.2.1 r9.2.2.2.2).bind fun r11 => (some (r10.1, r10.2, r11.1, r9.2.2.1, r11.2.1, r11.2.2.1, r11.2.2.2.1, r11.2.2.2.2.1, r9.2.2.2.1, r9.2.2.2.2, r11.2.2.2.2.2.1, r11.2.2.2.2.2.2.1, r11.2.2.2.2.2.2.2.1, r11.2.2.2.2.2.2.2.2))))))
      (fun o : zXO => (o.1 ≠ 0 ∧ ((f = 0 ∧ yp_CT T len k p c = some (.inl o.1)) ∨ (f ≠ 0 ∧ o.1 = f))) ∨ (o.1 = 0 ∧ f = 0 ∧ ∃ p' c', yp_CT T len k p c = some (.inr (p', c', k, c.1)) ∧ yx_ok p0 c0 nc k f1 ρE tL lP tS sP kd fr hf to len p' c.1 c' o)) := by
  by_cases hf0 : f = 0
  · obtain ⟨d2, d3, d4, d5⟩ := c2 hf0
    have hk2 := hk hf0
    have hE2 := hE hf0
    clear c2 hk hE
    subst hf0
    rw [ze_skip (by omega) (by omega) (by omega), zl_b]
    by_cases h40 : yp_pk T len p = 40
    · have hpl : p < len := yp_pk_lt (T := T) (by omega)
      rw [if_pos h40]
      refine zh_bind (yr_readCondition hl hT (p + 1) c (by omega) (by omega) c1.1 (by omega)) fun r hr => ?_
      obtain ⟨⟨r1, r2⟩, ⟨r3, r4⟩, ro, rb⟩ := hr
      by_cases he : r.1 = 0
      · obtain ⟨b1, b2, b3, b4, ⟨ρ, b5⟩, b6, b7⟩ := ro he
        obtain ⟨kk, l, u⟩ := b7 [(13, 0)] rfl
        have b6 : yp_pk T len r.2.1 ≠ 38 ∧ yp_pk T len r.2.1 ≠ 124 := b6
        have hu := u (1000 - kk)
        rw [show 1000 - kk + kk = 1000 by omega, show 1000 - kk = (999 - kk) + 1 by omega, yp_C_f, if_neg (show ¬ yp_hd [(13, 0)] = 10 from (by decide))] at hu
        rw [he, ze_skip r1 (by omega) (by omega), zl_b]
        by_cases h41 : yp_pk T len r.2.1 = 41
        · have hp3 : r.2.1 < len := yp_pk_lt (T := T) (by omega)
          rw [if_pos h41] at hu ⊢
          obtain ⟨tL', lP', tS', sP', ea, em⟩ := ze_addClause (K := r.2.2.2.1) (V := r.2.2.2.2) (k := k) (f := f1) (h := c.1) (st := r.2.2.1) (tL := tL) (lP := lP) (tS := tS) (sP := sP) (g0 := kd) (g1 := fr) (g2 := hf) (g3 := to) n1 n2 c1.1 r4
          rw [ea, zl_b]
          refine zh_ret (Or.inr ⟨rfl, rfl, r.2.1 + 1, r.2.2, ?_, ⟨rfl, by omega, by omega⟩, rfl, ⟨rfl, rfl, rfl⟩, ⟨d2, b2, by omega, fun j hj => ⟨(b4 j (by omega)).1.trans (hk2 j hj).1, (b4 j (by omega)).2.trans (hk2 j hj).2⟩⟩, ⟨rfl, rfl, rfl, rfl⟩, em, ⟨ρ, b5⟩, ?_⟩)
          · unfold yp_CT
            rw [if_pos h40, hu, yp_la_n (w := [(13, 0)]) ⟨(by decide), fun _ => (by decide)⟩]
            rfl
          · cases ρE with
            | none => trivial
            | some ρ' => exact zd_seg_fr hE2 fun j _ j2 => b4 j j2
        · rw [if_neg h41] at hu ⊢
          rw [if_neg b6.1, if_neg b6.2] at hu
          obtain ⟨o, eo⟩ := ze_addClause_a (K := r.2.2.2.1) (V := r.2.2.2.2) (k := k) (f := f1) (h := c.1) (nc := nc) (st := r.2.2.1) (tL := tL) (lP := lP) (tS := tS) (sP := sP) (g0 := kd) (g1 := fr) (g2 := hf) (g3 := to) n1 (by omega) c1.1 r4
          rw [eo, zl_b]
          refine zh_ret (Or.inl ⟨fun h => ?_, Or.inl ⟨rfl, ?_⟩⟩)
          · have h : -1000 - r.2.1 = 0 := h
            omega
          · unfold yp_CT
            rw [if_pos h40, hu]
            rfl
      · rw [ze_skipf he, zl_b]
        obtain ⟨kk, l, u⟩ := rb he [(13, 0)] rfl
        have hu := u (999 - kk)
        rw [show 999 - kk + kk + 1 = 1000 by omega] at hu
        obtain ⟨o, eo⟩ := ze_addClause_a (K := r.2.2.2.1) (V := r.2.2.2.2) (k := k) (f := f1) (h := c.1) (nc := nc) (st := r.2.2.1) (tL := tL) (lP := lP) (tS := tS) (sP := sP) (g0 := kd) (g1 := fr) (g2 := hf) (g3 := to) n1 (by omega) c1.1 r4
        rw [eo, zl_b]
        refine zh_ret (Or.inl ⟨he, Or.inl ⟨rfl, ?_⟩⟩)
        unfold yp_CT
        rw [if_pos h40, hu]
        rfl
    · rw [if_neg h40]
      have hne : (-1000 - p : Int) ≠ 0 := by omega
      show zh_ok ((zf_LawReader_readCondition 1 (-1000 - p) p len c.1 T c.2.1 c.2.2).bind _) _
      rw [yr_readCondf hne (by omega) (by omega), zl_b, ze_skipf hne, zl_b]
      obtain ⟨o, eo⟩ := ze_addClause_a (K := c.2.1) (V := c.2.2) (k := k) (f := f1) (h := c.1) (nc := nc) (st := c.1) (tL := tL) (lP := lP) (tS := tS) (sP := sP) (g0 := kd) (g1 := fr) (g2 := hf) (g3 := to) n1 (by omega) c1.1 c1.2
      rw [eo, zl_b]
      refine zh_ret (Or.inl ⟨hne, Or.inl ⟨rfl, ?_⟩⟩)
      unfold yp_CT
      rw [if_neg h40]
  · rw [ze_skipf hf0, zl_b]
    show zh_ok ((zf_LawReader_readCondition 1 f p len c.1 T c.2.1 c.2.2).bind _) _
    rw [yr_readCondf hf0 (by omega) (by omega), zl_b, ze_skipf hf0, zl_b]
    obtain ⟨o, eo⟩ := ze_addClause_a (K := c.2.1) (V := c.2.2) (k := k) (f := f1) (h := c.1) (nc := nc) (st := c.1) (tL := tL) (lP := lP) (tS := tS) (sP := sP) (g0 := kd) (g1 := fr) (g2 := hf) (g3 := to) n1 (by omega) c1.1 c1.2
    rw [eo, zl_b]
    exact zh_ret (Or.inl ⟨hf0, Or.inr ⟨hf0, rfl⟩⟩)
/-- what the class leaves of a clause -/
def yx_cl (T : Int → Int) (len nc p : Int) (c : zCD) (tL lP tS sP : Int) (kd fr hf to : Int → Int) (o : zXO) : Prop :=
  (o.1 ≠ 0 ∧ yp_CL T len nc p c = some (.inl o.1)) ∨ (o.1 = 0 ∧ ∃ p' c' h ρE, yp_CL T len nc p c = some (.inr (p', c', yp_pk T len p, h)) ∧ yl_kind (yp_pk T len p) ∧ nc < 14 ∧ (yl_am (yp_pk T len p) → ∃ ρ, ρE = some ρ) ∧ yx_ok p c nc (yp_pk T len p) c.1 ρE tL lP tS sP kd fr hf to len p' h c' o)
theorem yx_clause (hl : len ≤ 200) (hT : ∀ j, 0 ≤ j → j < 220 → 0 ≤ T j ∧ T j ≤ 255) {nc tL lP tS sP p : Int} {kd fr hf to : Int → Int} {c : zCD} (n1 : 0 ≤ nc) (n2 : nc ≤ 14) (p1 : 0 ≤ p) (p2 : p ≤ len) (c1 : 0 ≤ c.1) (c2 : c.1 ≤ p) :
    zh_ok (zf_LawReader_readClause 0 p len nc c.1 tL lP tS sP T c.2.1 c.2.2 kd fr hf to) (yx_cl T len nc p c tL lP tS sP kd fr hf to) := by
  unfold zf_LawReader_readClause
  rw [if_pos rfl, ze_peek p1 (by omega), zl_b]
  have full : ∀ o14, zf_LawReader_fail 4 0 p = some o14 → yp_kd (yp_pk T len p) = true → nc = 14 → yx_cl T len nc p c tL lP tS sP kd fr hf to (o14, p, nc, c.1, tL, lP, tS, sP, c.2.1, c.2.2, kd, fr, hf, to) := by
    intro o14 e hkd h14
    rw [ze_fail p1 (by omega) (by decide) (by decide)] at e
    cases e
    refine Or.inl ⟨fun h => ?_, ?_⟩
    · have h : -1000 * 4 - p = 0 := h
      omega
    · unfold yp_CL
      rw [if_pos hkd, if_pos h14]
      rfl
  have amt : yp_ka (yp_pk T len p) = true → yp_kd (yp_pk T len p) = true → zh_ok (if nc = 14 then ((zf_LawReader_fail 4 0 p).bind fun r12 => (some (r12, p, nc, c.1, tL, lP, tS, sP, c.2.1, c.2.2, kd, fr, hf, to))) else ((zf_LawReader_readSum 0 0 (zi_w (p + 1)) len c.1 T c.2.1 c.2.2).bind fun r7 => ((zf_LawReader_skip 40 r7.1 r7.2.1 len T).bind fun r8 => ((zf_LawReader_readCondition 1 r8.1 r8.2 len r7.2.2.1 T r7.2.2.2.1 r7.2.2.2.2).bind fun r9 => ((zf_LawReader_skip 41 r9.1 r9.2.1 len T).bind fun r10 => ((zf_Law_addClause (yp_pk T len p) c.1 r7.2.2.1 nc r9.2.2.1 tL lP tS sP kd fr hf to r9.2.2.2.1 r9.2.2.2.2).bind fun r11 => (some (r10.1, r10.2, r11.1, r9.2.2.1, r11.2.1, r11.2.2.1, r11.2.2.2.1, r11.2.2.2.2.1, r9.2.2.2.1, r9.2.2.2.2, r11.2.2.2.2.2.1, r11.2.2.2.2.2.2.1, r11.2.2.2.2.2.2.2.1, r11.2.2.2.2.2.2.2.2)))))))) (yx_cl T len nc p c tL lP tS sP kd fr hf to) := by
    intro hka hkd
    by_cases h14 : nc = 14
    · rw [if_pos h14]
      have e := ze_fail (k := 4) p1 (by omega : p ≤ 220) (by decide) (by decide)
      rw [e, zl_b]
      exact zh_ret (full _ e hkd h14)
    · rw [if_neg h14]
      have hka' : yp_pk T len p = 119 ∨ yp_pk T len p = 103 ∨ yp_pk T len p = 113 := of_decide_eq_true hka
      have hkd' : yp_pk T len p = 118 ∨ yp_pk T len p = 106 ∨ yp_pk T len p = 119 ∨ yp_pk T len p = 103 ∨ yp_pk T len p = 113 := of_decide_eq_true hkd
      have hp : p < len := yp_pk_lt (T := T) (by rcases hka' with h | h | h <;> omega)
      rw [zi_w_id (x := p + 1) (by omega) (by omega)]
      refine zh_bind (yr_readSum hl hT (by decide) (by decide) (p + 1) c (by omega) (by omega) c1 (by omega)) fun r hr => ?_
      obtain ⟨⟨r1, r2⟩, ⟨r3, r4⟩, ro, rb⟩ := hr
      by_cases he : r.1 = 0
      · have ro := ro he
        have hS := yr_sumS hl (by omega) r2 ro
        obtain ⟨b1, b2, b3, b4, ⟨ρ, b5⟩, b6, b7⟩ := ro
        refine zh_mono (yx_tail (ρE := some ρ) (p0 := p) (c0 := c) hl hT n1 (by omega) (by omega) p1 r2 c1 (fun _ => ⟨by omega, by omega, by omega, by omega⟩) ⟨r3, r4⟩ (fun _ => b4) (fun _ => zd_seg_nd b5 (by decide))) fun o ho => ?_
        rcases ho with ⟨o1, o2⟩ | ⟨o1, -, p', c', o2, o3⟩
        · refine Or.inl ⟨o1, ?_⟩
          unfold yp_CL
          rw [if_pos hkd, if_neg h14, if_pos hka, hS, zl_b]
          rcases o2 with ⟨_, o2⟩ | ⟨o2, _⟩
          · exact o2
          · exact absurd he o2
        · refine Or.inr ⟨o1, p', c', r.2.2.1, some ρ, ?_, hkd', by omega, fun _ => ⟨ρ, rfl⟩, o3⟩
          unfold yp_CL
          rw [if_pos hkd, if_neg h14, if_pos hka, hS, zl_b]
          exact o2
      · have hS := yr_sumN hl (by omega) (rb he)
        refine zh_mono (yx_tail (ρE := none) (p0 := 0) (c0 := c) hl hT n1 (by omega) r1 (by decide) r2 c1 (fun h => absurd h he) ⟨r3, r4⟩ (fun h => absurd h he) (fun h => absurd h he)) fun o ho => ?_
        rcases ho with ⟨o1, o2⟩ | ⟨o1, o2, _⟩
        · refine Or.inl ⟨o1, ?_⟩
          unfold yp_CL
          rw [if_pos hkd, if_neg h14, if_pos hka, hS, zl_b]
          rcases o2 with ⟨o2, _⟩ | ⟨_, o2⟩
          · exact absurd o2 he
          · rw [o2]; rfl
        · exact absurd o2 he
  have pln : ¬ yp_ka (yp_pk T len p) = true → yp_kd (yp_pk T len p) = true → zh_ok (if nc = 14 then ((zf_LawReader_fail 4 0 p).bind fun r32 => (some (r32, p, nc, c.1, tL, lP, tS, sP, c.2.1, c.2.2, kd, fr, hf, to))) else ((zf_LawReader_skip 40 0 (zi_w (p + 1)) len T).bind fun r28 => ((zf_LawReader_readCondition 1 r28.1 r28.2 len c.1 T c.2.1 c.2.2).bind fun r29 => ((zf_LawReader_skip 41 r29.1 r29.2.1 len T).bind fun r30 => ((zf_Law_addClause (yp_pk T len p) c.1 c.1 nc r29.2.2.1 tL lP tS sP kd fr hf to r29.2.2.2.1 r29.2.2.2.2).bind fun r31 => (some (r30.1, r30.2, r31.1, r29.2.2.1, r31.2.1, r31.2.2.1, r31.2.2.2.1, r31.2.2.2.2.1, r29.2.2.2.1, r29.2.2.2.2, r31.2.2.2.2.2.1, r31.2.2.2.2.2.2.1, r31.2.2.2.2.2.2.2.1, r31.2.2.2.2.2.2.2.2))))))) (yx_cl T len nc p c tL lP tS sP kd fr hf to) := by
    intro hka hkd
    by_cases h14 : nc = 14
    · rw [if_pos h14]
      have e := ze_fail (k := 4) p1 (by omega : p ≤ 220) (by decide) (by decide)
      rw [e, zl_b]
      exact zh_ret (full _ e hkd h14)
    · rw [if_neg h14]
      have hkd' : yp_pk T len p = 118 ∨ yp_pk T len p = 106 ∨ yp_pk T len p = 119 ∨ yp_pk T len p = 103 ∨ yp_pk T len p = 113 := of_decide_eq_true hkd
      have hp : p < len := yp_pk_lt (T := T) (by rcases hkd' with h | h | h | h | h <;> omega)
      rw [zi_w_id (x := p + 1) (by omega) (by omega)]
      refine zh_mono (yx_tail (ρE := none) (p0 := p) (c0 := c) (f := 0) hl hT n1 (by omega) (by omega) p1 (by omega) c1 (fun _ => ⟨by omega, by omega, by omega, by omega⟩) ⟨c1, by omega⟩ (fun _ _ _ => ⟨rfl, rfl⟩) (fun _ => trivial)) fun o ho => ?_
      rcases ho with ⟨o1, o2⟩ | ⟨o1, -, p', c', o2, o3⟩
      · refine Or.inl ⟨o1, ?_⟩
        unfold yp_CL
        rw [if_pos hkd, if_neg h14, if_neg hka]
        rcases o2 with ⟨_, o2⟩ | ⟨o2, _⟩
        · exact o2
        · exact absurd rfl o2
      · refine Or.inr ⟨o1, p', c', c.1, none, ?_, hkd', by omega, fun h => absurd (by unfold yp_ka; exact decide_eq_true h) hka, o3⟩
        unfold yp_CL
        rw [if_pos hkd, if_neg h14, if_neg hka]
        exact o2
  by_cases h119 : yp_pk T len p = 119
  · rw [if_pos h119]
    exact amt (by rw [h119]; rfl) (by rw [h119]; rfl)
  rw [if_neg h119]
  by_cases h103 : yp_pk T len p = 103
  · rw [if_pos h103]
    exact amt (by rw [h103]; rfl) (by rw [h103]; rfl)
  rw [if_neg h103]
  by_cases h113 : yp_pk T len p = 113
  · rw [if_pos h113]
    exact amt (by rw [h113]; rfl) (by rw [h113]; rfl)
  rw [if_neg h113]
  by_cases h118 : yp_pk T len p = 118
  · rw [if_pos h118]
    exact pln (by rw [h118]; decide) (by rw [h118]; rfl)
  rw [if_neg h118]
  by_cases h106 : yp_pk T len p = 106
  · rw [if_pos h106]
    exact pln (by rw [h106]; decide) (by rw [h106]; rfl)
  rw [if_neg h106, ze_fail p1 (by omega) (by decide) (by decide), zl_b]
  refine zh_ret (Or.inl ⟨fun h => ?_, ?_⟩)
  · have h : -1000 * 1 - p = 0 := h
    omega
  · unfold yp_CL
    rw [if_neg (fun h => by
      have h := of_decide_eq_true h
      rcases h with h | h | h | h | h
      · exact h118 h
      · exact h106 h
      · exact h119 h
      · exact h103 h
      · exact h113 h)]
    rfl
end YXC
