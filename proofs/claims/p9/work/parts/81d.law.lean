/-! A whole law, read on both sides. -/
section YLPOS
variable {T : Int → Int} {len : Int}
theorem yp_nm_0 : ∀ (k : Nat) (v p : Int), 0 ≤ p → 0 ≤ (yp_nm T len k v p).2
  | 0, _, _, h => h
  | k + 1, v, p, h => by
    unfold yp_nm
    split
    · exact yp_nm_0 k _ _ (by omega)
    · exact h
theorem yp_S_pos : ∀ (n : Nat) (b : Bool) (w : List Int) (o p : Int) (c : zCD) (R : Int ⊕ (Int × zCD)), 0 ≤ p → yp_S T len n b w o p c = some R → Sum.elim (fun f => f < 0) (fun q => 0 ≤ q.1) R := by
  intro n
  induction n with
  | zero => intro b w o p c R _ h; exact zl_ns h
  | succ n ih =>
    intro b w o p c R hp h
    cases b with
    | true =>
      rw [yp_S_t] at h
      split at h
      · split at h
        · cases h; show -5000 - p < 0; omega
        · exact ih _ _ _ _ _ _ (by omega) h
      · split at h
        · have := yp_nm_0 (T := T) (len := len) 5 0 p hp
          split at h
          · cases h; show -2000 - _ < 0; omega
          · exact ih _ _ _ _ _ _ this h
        · split at h
          · cases h; show -1000 - p < 0; omega
          · exact ih _ _ _ _ _ _ (by omega) h
    | false =>
      rw [yp_S_f] at h
      split at h
      · exact ih _ _ _ _ _ _ (by omega) h
      · split at h
        · split at h
          · exact ih _ _ _ _ _ _ (by omega) h
          · cases h; show -1000 - p < 0; omega
        · cases h; exact hp
theorem yp_C_pos : ∀ (n : Nat) (b : Bool) (w : zWT) (o p : Int) (c : zCD) (R : Int ⊕ (Int × zCD)), 0 ≤ p → yp_C T len n b w o p c = some R → Sum.elim (fun f => f < 0) (fun q => 0 ≤ q.1) R := by
  intro n
  induction n with
  | zero => intro b w o p c R _ h; exact zl_ns h
  | succ n ih =>
    intro b w o p c R hp h
    cases b with
    | true =>
      rw [yp_C_t] at h
      split at h
      · split at h
        · cases h; show -5000 - p < 0; omega
        · exact ih _ _ _ _ _ _ (by omega) h
      · split at h
        · split at h
          · cases h; show -5000 - p < 0; omega
          · exact ih _ _ _ _ _ _ (by omega) h
        · obtain ⟨q, hq, h⟩ := zi_bind h
          have hq2 := yp_S_pos _ _ _ _ _ _ _ hp hq
          cases q with
          | inl f =>
            simp only [Sum.elim_inl] at h
            cases h
            exact hq2
          | inr q =>
            simp only [Sum.elim_inr] at h hq2
            split at h
            · cases h; show -1000 - q.1 < 0; omega
            · obtain ⟨u, hu, h⟩ := zi_bind h
              have hu2 := yp_S_pos _ _ _ _ _ _ _ (by omega) hu
              cases u with
              | inl f =>
                simp only [Sum.elim_inl] at h
                cases h
                exact hu2
              | inr u =>
                simp only [Sum.elim_inr] at h hu2
                exact ih _ _ _ _ _ _ hu2 h
    | false =>
      rw [yp_C_f] at h
      split at h
      · exact ih _ _ _ _ _ _ hp h
      · split at h
        · split at h
          · cases h; show 0 ≤ p + 1; omega
          · exact ih _ _ _ _ _ _ (by omega) h
        · split at h
          · exact ih _ _ _ _ _ _ (by omega) h
          · split at h
            · exact ih _ _ _ _ _ _ (by omega) h
            · cases h; show -1000 - p < 0; omega
theorem yp_CT_neg {k p f : Int} {c : zCD} (hp : 0 ≤ p) (h : yp_CT T len k p c = some (.inl f)) : f < 0 := by
  unfold yp_CT at h
  split at h
  · obtain ⟨q, hq, h⟩ := zi_bind h
    have hq2 := yp_C_pos _ _ _ _ _ _ _ (by omega) hq
    cases q with
    | inl g =>
      simp only [Sum.elim_inl] at h
      cases h
      exact hq2
    | inr q =>
      simp only [Sum.elim_inr] at h
      cases h
  · cases h; omega
theorem yp_CL_neg {nc p f : Int} {c : zCD} (hp : 0 ≤ p) (h : yp_CL T len nc p c = some (.inl f)) : f < 0 := by
  unfold yp_CL at h
  split at h
  · split at h
    · cases h; omega
    · split at h
      · obtain ⟨q, hq, h⟩ := zi_bind h
        have hq2 := yp_S_pos _ _ _ _ _ _ _ (by omega) hq
        cases q with
        | inl g =>
          simp only [Sum.elim_inl] at h
          cases h
          exact hq2
        | inr q =>
          simp only [Sum.elim_inr] at h hq2
          exact yp_CT_neg hq2 h
      · exact yp_CT_neg (by omega) h
  · cases h; omega
end YLPOS
/-- both sides, while all goes well -/
def yl_J (len : Int) (L : zLW) (p : Int) (c : zCD) (nc tS tL sP lP : Int) (kd fr hf to : Int → Int) (m sm : Int) (g1 g2 g3 g5 g6 : Int → Int) : Prop :=
  (nc = L.1 ∧ 0 ≤ nc ∧ nc ≤ 14) ∧ (0 ≤ p ∧ p ≤ len) ∧ (0 ≤ c.1 ∧ c.1 ≤ p) ∧ (∀ q, 0 ≤ q → q < nc → kd q = L.2.1 q ∧ g1 q = L.2.1 q ∧ g2 q = fr q ∧ g3 q = hf q ∧ g6 q = to q) ∧ yl_cl c.2.1 c.2.2 c.1 L fr hf to ∧ yl_fl c.2.1 c.2.2 L hf to tS tL sP lP ∧ yk_c c m g5 ∧ sm = nc
theorem yl_fl_add {K V K2 V2 : Int → Int} {L : zLW} {hf to : Int → Int} {tS tL sP lP tS2 tL2 sP2 lP2 k h st st2 : Int} {ρC ρE : (Int → Int) → Option Int} (h0 : 0 ≤ L.1) (hf0 : yl_fl K V L hf to tS tL sP lP) (hm : yl_mk K2 V2 k h st2 tL lP tS sP tL2 lP2 tS2 sP2) (hK : ∀ j, j < st → K2 j = K j ∧ V2 j = V j) (hto : ∀ q, 0 ≤ q → q < L.1 → to q ≤ st) : yl_fl K2 V2 (yl_add L k ρC ρE) (zv_up hf L.1 h) (zv_up to L.1 st2) tS2 tL2 sP2 lP2 := by
  obtain ⟨⟨a1, a2⟩, ⟨a3, a4, a5⟩, a6, a7⟩ := hf0
  obtain ⟨⟨m1, m2⟩, m3, m4⟩ := hm
  refine ⟨⟨?_, ?_⟩, ⟨?_, ?_, ?_⟩, ?_, ?_⟩
  · rw [m1]; exact yl_tell_add h0 a1
  · rw [m2]; exact yl_tell_add h0 a2
  · exact yl_byp_add a3 (fun e => ⟨(m3 e).1, fun hk j j1 j2 j3 => ((m3 e).2 hk j j1 j2 j3).1⟩) hK hto
  · exact yl_byp_add a4 (fun e => ⟨(m3 e).1, fun hk j j1 j2 j3 => ((m3 e).2 hk j j1 j2 j3).2.1⟩) hK hto
  · exact yl_byp_add a5 (fun e => ⟨(m3 e).1, fun hk j j1 j2 j3 => ((m3 e).2 hk j j1 j2 j3).2.2⟩) hK hto
  · exact yl_byp_add a6 (fun e => ⟨(m4 e).1, fun hk j j1 j2 j3 => ((m4 e).2 hk j j1 j2 j3).1⟩) hK hto
  · exact yl_byp_add a7 (fun e => ⟨(m4 e).1, fun hk j j1 j2 j3 => ((m4 e).2 hk j j1 j2 j3).2⟩) hK hto
section YLJ
variable {T M : Int → Int} {len : Int}
/-- one clause on both sides -/
theorem yl_step (hT : yk_T T M) (hl : len ≤ 200) {L : zLW} {p : Int} {c : zCD} {nc tS tL sP lP : Int} {kd fr hf to : Int → Int} {m sm : Int} {g1 g2 g3 g4 g5 g6 : Int → Int} {o k f num : Int} (J : yl_J len L p c nc tS tL sP lP kd fr hf to m sm g1 g2 g3 g5 g6) :
    ∃ (x : zXO) (y : zMO), zf_LawReader_readClause 0 p len nc c.1 tL lP tS sP T c.2.1 c.2.2 kd fr hf to = some x ∧ zf_M_readsClause p len sm m o k f num M g1 g2 g3 g4 g5 g6 = some y ∧
      ((x.1 < 0 ∧ y.1 = 0 ∧ y.2.2.2.2.2.2.1 = x.1) ∨ (x.1 = 0 ∧ y.1 = 1 ∧ y.2.1 = x.2.1 ∧ p < x.2.1 ∧ x.2.2.1 = nc + 1 ∧ ∃ L2, yl_J len L2 x.2.1 (x.2.2.2.1, x.2.2.2.2.2.2.2.2.1, x.2.2.2.2.2.2.2.2.2.1) x.2.2.1 x.2.2.2.2.2.2.1 x.2.2.2.2.1 x.2.2.2.2.2.2.2.1 x.2.2.2.2.2.1 x.2.2.2.2.2.2.2.2.2.2.1 x.2.2.2.2.2.2.2.2.2.2.2.1 x.2.2.2.2.2.2.2.2.2.2.2.2.1 x.2.2.2.2.2.2.2.2.2.2.2.2.2 y.2.2.2.1 y.2.2.1 y.2.2.2.2.2.2.2.2.1 y.2.2.2.2.2.2.2.2.2.1 y.2.2.2.2.2.2.2.2.2.2.1 y.2.2.2.2.2.2.2.2.2.2.2.2.1 y.2.2.2.2.2.2.2.2.2.2.2.2.2)) := by
  obtain ⟨⟨j1, j2, j3⟩, ⟨j4, j5⟩, ⟨j6, j7⟩, j8, j9, j10, j11, j12⟩ := J
  obtain ⟨x, ex, hx⟩ := yx_clause (tL := tL) (lP := lP) (tS := tS) (sP := sP) (kd := kd) (fr := fr) (hf := hf) (to := to) hl (fun j a b => (hT j a b).2) j2 j3 j4 j5 j6 j7
  rcases hx with ⟨x1, x2⟩ | ⟨x1, p', c', h, ρE, x2, x3, x4, x5, x6⟩
  · obtain ⟨y, ey, hy⟩ := ym_clause (o := o) (k := k) (f := f) (num := num) (g1 := g1) (g2 := g2) (g3 := g3) (W := g4) (g6 := g6) hT hl x2 j11 j2 j3 j4 j5 j7
    rcases hy with ⟨y1, y2⟩ | ⟨y1, c', h, y2, _⟩
    · refine ⟨x, y, ex, by rw [j12]; exact ey, Or.inl ⟨yp_CL_neg j4 x2, y1, (Sum.inl.inj y2).symm⟩⟩
    · cases y2
  · obtain ⟨y, ey, hy⟩ := ym_clause (o := o) (k := k) (f := f) (num := num) (g1 := g1) (g2 := g2) (g3 := g3) (W := g4) (g6 := g6) hT hl x2 j11 j2 j3 j4 j5 j7
    rcases hy with ⟨y1, y2⟩ | ⟨y1, c2, h2, y2, y3, y4, ⟨⟨y5, y6⟩, y7⟩, y8, y9, y10, y11⟩
    · cases y2
    · obtain ⟨⟨a1, a2, a3⟩, a4, ⟨a5, a6, a7⟩, ⟨a8, a9, a10, a11⟩, ⟨a12, a13, a14, a15⟩, a16, ⟨ρC, a17⟩, a18⟩ := x6
      have e1 : p' = y.2.1 ∧ c' = c2 ∧ h = h2 := by
        cases y2
        exact ⟨rfl, rfl, rfl⟩
      obtain ⟨e1, e2, e3⟩ := e1
      subst e2
      subst e3
      refine ⟨x, y, ex, by rw [j12]; exact ey, Or.inr ⟨x1, y1, by rw [a1, e1], by omega, a4, yl_add L (yp_pk T len p) ρC (ρE.getD fun _ => none), ?_⟩⟩
      have ec : (x.2.2.2.1, x.2.2.2.2.2.2.2.2.1, x.2.2.2.2.2.2.2.2.2.1) = c' := by
        rw [a5, a6, a7]
      rw [ec, a12, a13, a14, a15, y8, y9, y10, y11, j1]
      obtain ⟨ym, y0⟩ := y4.1
      refine ⟨⟨by rw [a4, j1]; rfl, by omega, by omega⟩, ⟨by omega, by omega⟩, ⟨y0, by omega⟩, fun q q1 q2 => ?_, ?_, ?_, y4, by omega⟩
      · rw [a4] at q2
        show zv_up kd L.1 (yp_pk T len p) q = zv_up L.2.1 L.1 (yp_pk T len p) q ∧ zv_up g1 L.1 (yp_pk T len p) q = zv_up L.2.1 L.1 (yp_pk T len p) q ∧ zv_up g2 L.1 c.1 q = zv_up fr L.1 c.1 q ∧ zv_up g3 L.1 h q = zv_up hf L.1 h q ∧ zv_up g6 L.1 c'.1 q = zv_up to L.1 c'.1 q
        by_cases e : q = L.1
        · subst e
          exact ⟨by rw [zv_up_s, zv_up_s], by rw [zv_up_s, zv_up_s], by rw [zv_up_s, zv_up_s], by rw [zv_up_s, zv_up_s], by rw [zv_up_s, zv_up_s]⟩
        · obtain ⟨b1, b2, b3, b4, b5⟩ := j8 q q1 (by omega)
          exact ⟨by rw [zv_up_n e, zv_up_n e]; exact b1, by rw [zv_up_n e, zv_up_n e]; exact b2, by rw [zv_up_n e, zv_up_n e]; exact b3, by rw [zv_up_n e, zv_up_n e]; exact b4, by rw [zv_up_n e, zv_up_n e]; exact b5⟩
      · refine yl_cl_add j9 a11 x3 (Int.le_refl _) a8 a9 j6 a17 fun ha => ?_
        obtain ⟨ρ, eρ⟩ := x5 ha
        subst eρ
        exact a18
      · exact yl_fl_add (by omega) j10 a16 a11 fun q q1 q2 => (j9 q q1 q2).2.1.2.2.2
theorem yx_readf {n : Nat} {mo f p st nc tS tL sP lP : Int} {K V kd fr hf to : Int → Int} (hf0 : f ≠ 0) : zf_LawReader_read_l0 len T (n + 1) mo p f st nc tS tL sP lP K V kd fr hf to = some (p, f, st, nc, tS, tL, sP, lP, K, V, kd, fr, hf, to) := by
  show zf_LawReader_read_l0_b len T (zf_LawReader_read_l0 len T n) mo p f st nc tS tL sP lP K V kd fr hf to = _
  unfold zf_LawReader_read_l0_b
  by_cases h : mo < 14
  · rw [if_pos h, if_neg hf0]
  · rw [if_neg h]
theorem ym_lawf {n : Nat} {p m sm o k f num : Int} {g1 g2 g3 g4 g5 g6 : Int → Int} : zf_M_law_l0 len M (n + 1) 0 p m sm o k f num g1 g2 g3 g4 g5 g6 = some (0, p, m, sm, o, k, f, num, g1, g2, g3, g4, g5, g6) := by
  show zf_M_law_l0_b len M (zf_M_law_l0 len M n) 0 p m sm o k f num g1 g2 g3 g4 g5 g6 = _
  unfold zf_M_law_l0_b
  rw [if_pos rfl]
/-- the clauses that follow, on both sides -/
theorem yl_loop (hT : yk_T T M) (hl : len ≤ 200) : ∀ (d : Nat) {L : zLW} {p : Int} {c : zCD} {nc tS tL sP lP : Int} {kd fr hf to : Int → Int} {m sm : Int} {g1 g2 g3 g4 g5 g6 : Int → Int} {o k f num : Int} (n n2 : Nat), len - p ≤ d → 1 ≤ nc → d + 1 < n → d + 1 < n2 → yl_J len L p c nc tS tL sP lP kd fr hf to m sm g1 g2 g3 g5 g6 →
    ∃ x y, zf_LawReader_read_l0 len T n (nc - 1) p 0 c.1 nc tS tL sP lP c.2.1 c.2.2 kd fr hf to = some x ∧ zf_M_law_l0 len M n2 1 p m sm o k f num g1 g2 g3 g4 g5 g6 = some y ∧
      ((x.2.1 < 0 ∧ y.1 = 0 ∧ y.2.2.2.2.2.2.1 = x.2.1) ∨ (x.2.1 = 0 ∧ y.1 = 1 ∧ ∃ L2, yl_J len L2 x.1 (x.2.2.1, x.2.2.2.2.2.2.2.2.1, x.2.2.2.2.2.2.2.2.2.1) x.2.2.2.1 x.2.2.2.2.1 x.2.2.2.2.2.1 x.2.2.2.2.2.2.1 x.2.2.2.2.2.2.2.1 x.2.2.2.2.2.2.2.2.2.2.1 x.2.2.2.2.2.2.2.2.2.2.2.1 x.2.2.2.2.2.2.2.2.2.2.2.2.1 x.2.2.2.2.2.2.2.2.2.2.2.2.2 y.2.2.1 y.2.2.2.1 y.2.2.2.2.2.2.2.2.1 y.2.2.2.2.2.2.2.2.2.1 y.2.2.2.2.2.2.2.2.2.2.1 y.2.2.2.2.2.2.2.2.2.2.2.2.1 y.2.2.2.2.2.2.2.2.2.2.2.2.2 ∧ 1 ≤ x.2.2.2.1)) := by
  intro d
  induction d with
  | zero =>
    intro L p c nc tS tL sP lP kd fr hf to m sm g1 g2 g3 g4 g5 g6 o k f num n n2 hd hn h1 h2 J
    obtain ⟨n, rfl⟩ : ∃ q, n = q + 1 := ⟨n - 1, by omega⟩
    obtain ⟨n2, rfl⟩ : ∃ q, n2 = q + 1 := ⟨n2 - 1, by omega⟩
    have hnc := J.1.2.2
    refine ⟨(p, 0, c.1, nc, tS, tL, sP, lP, c.2.1, c.2.2, kd, fr, hf, to), (1, p, m, sm, o, k, f, num, g1, g2, g3, g4, g5, g6), ?_, ?_, Or.inr ⟨rfl, rfl, L, J, hn⟩⟩
    · show zf_LawReader_read_l0_b len T (zf_LawReader_read_l0 len T n) (nc - 1) p 0 c.1 nc tS tL sP lP c.2.1 c.2.2 kd fr hf to = some (p, 0, c.1, nc, tS, tL, sP, lP, c.2.1, c.2.2, kd, fr, hf, to)
      unfold zf_LawReader_read_l0_b
      rw [if_pos (by omega), if_pos rfl, if_neg (by omega)]
    · show zf_M_law_l0_b len M (zf_M_law_l0 len M n2) 1 p m sm o k f num g1 g2 g3 g4 g5 g6 = _
      unfold zf_M_law_l0_b
      rw [if_neg (by decide), if_neg (by omega)]
  | succ d ih =>
    intro L p c nc tS tL sP lP kd fr hf to m sm g1 g2 g3 g4 g5 g6 o k f num n n2 hd hn h1 h2 J
    obtain ⟨n, rfl⟩ : ∃ q, n = q + 1 := ⟨n - 1, by omega⟩
    obtain ⟨n2, rfl⟩ : ∃ q, n2 = q + 1 := ⟨n2 - 1, by omega⟩
    have hnc := J.1.2.2
    have hp0 := J.2.1.1
    show ∃ x y, zf_LawReader_read_l0_b len T (zf_LawReader_read_l0 len T n) (nc - 1) p 0 c.1 nc tS tL sP lP c.2.1 c.2.2 kd fr hf to = some x ∧ zf_M_law_l0_b len M (zf_M_law_l0 len M n2) 1 p m sm o k f num g1 g2 g3 g4 g5 g6 = some y ∧ _
    unfold zf_LawReader_read_l0_b zf_M_law_l0_b
    rw [if_pos (show nc - 1 < 14 by omega), if_pos rfl, if_neg (show ¬ (1 : Int) = 0 by decide)]
    by_cases hp : p < len
    · rw [if_pos hp, if_pos hp, ze_skip hp0 (by omega) (by omega), zl_b]
      unfold zf_M_takes
      rw [ze_here hT hp0 (by omega), zl_b, zi_w_id (x := nc - 1 + 1) (by omega) (by omega)]
      by_cases h59 : yp_pk T len p = 59
      · rw [if_pos h59, if_pos h59, zl_b, zi_w_id (x := p + 1) (by omega) (by omega), if_neg (show ¬ (1 : Int) = 0 by decide)]
        obtain ⟨j1, j2, ⟨j6, j7⟩, j8, j9, j10, j11, j12⟩ := J
        obtain ⟨x, y, ex, ey, hxy⟩ := yl_step (o := o) (k := k) (f := f) (num := num) (g4 := g4) hT hl (p := p + 1) ⟨j1, ⟨by omega, by omega⟩, ⟨j6, by omega⟩, j8, j9, j10, j11, j12⟩
        show ∃ x y, ((zf_LawReader_readClause 0 (p + 1) len nc c.1 tL lP tS sP T c.2.1 c.2.2 kd fr hf to).bind _) = some x ∧ ((zf_M_readsClause (p + 1) len sm m o k f num M g1 g2 g3 g4 g5 g6).bind _) = some y ∧ _
        rw [ex, zl_b, ey, zl_b]
        rcases hxy with ⟨q1, q2, q3⟩ | ⟨q1, q2, q3, q4, q5, L2, q6⟩
        · obtain ⟨n, rfl⟩ : ∃ q, n = q + 1 := ⟨n - 1, by omega⟩
          obtain ⟨n2, rfl⟩ : ∃ q, n2 = q + 1 := ⟨n2 - 1, by omega⟩
          rw [yx_readf (by omega), if_pos q2, ym_lawf]
          exact ⟨_, _, rfl, rfl, Or.inl ⟨q1, rfl, q3⟩⟩
        · rw [if_neg (show ¬ y.1 = 0 by omega), q1, q3, show nc - 1 + 1 = x.2.2.1 - 1 by omega]
          exact ih n n2 (by omega) (by omega) (by omega) (by omega) q6
      · rw [if_neg h59, if_neg h59, ze_wrong hp0 (by omega) (by decide) (by decide), zl_b]
        obtain ⟨n, rfl⟩ : ∃ q, n = q + 1 := ⟨n - 1, by omega⟩
        obtain ⟨n2, rfl⟩ : ∃ q, n2 = q + 1 := ⟨n2 - 1, by omega⟩
        have hne : (-1000 - p : Int) ≠ 0 := by omega
        have eC : zf_LawReader_readClause (-1000 - p) p len nc c.1 tL lP tS sP T c.2.1 c.2.2 kd fr hf to = some (-1000 - p, p, nc, c.1, tL, lP, tS, sP, c.2.1, c.2.2, kd, fr, hf, to) := by
          unfold zf_LawReader_readClause
          rw [if_neg hne]
        refine ⟨(p, -1000 - p, c.1, nc, tS, tL, sP, lP, c.2.1, c.2.2, kd, fr, hf, to), (0, p, m, sm, o, k, -1000 * 1 - p, num, g1, g2, g3, g4, g5, g6), ?_, ?_, Or.inl ⟨(by show -1000 - p < 0; omega), rfl, rfl⟩⟩
        · show ((zf_LawReader_readClause (-1000 - p) p len nc c.1 tL lP tS sP T c.2.1 c.2.2 kd fr hf to).bind _) = _
          rw [eC, zl_b]
          exact yx_readf hne
        · exact ym_lawf (len := len) (M := M) (n := n2)
    · rw [if_neg hp, if_neg hp]
      exact ⟨_, _, rfl, rfl, Or.inr ⟨rfl, rfl, L, J, hn⟩⟩
end YLJ
