/-! A law as it is read: its clauses on both sides. -/
def yl_kind (k : Int) : Prop := k = 118 ∨ k = 106 ∨ k = 119 ∨ k = 103 ∨ k = 113
def yl_am (k : Int) : Prop := k = 119 ∨ k = 103 ∨ k = 113
/-- how many clauses, their kinds, what their C's and their E's come to -/
abbrev zLW : Type := Int × (Int → Int) × (Int → (Int → Int) → Option Int) × (Int → (Int → Int) → Option Int)
def yl_cl (K V : Int → Int) (st : Int) (L : zLW) (fr hf to : Int → Int) : Prop := ∀ q, 0 ≤ q → q < L.1 → yl_kind (L.2.1 q) ∧ (0 ≤ fr q ∧ fr q ≤ hf q ∧ hf q < to q ∧ to q ≤ st) ∧ zd_seg true K V (hf q) (to q) 16 (L.2.2.1 q) ∧ (yl_am (L.2.1 q) → zd_seg false K V (fr q) (hf q) 16 (L.2.2.2 q))
def yl_tell (L : zLW) (k t : Int) : Prop := (t = 1 ∧ ∃ q, 0 ≤ q ∧ q < L.1 ∧ L.2.1 q = k) ∨ (t = 0 ∧ ∀ q, 0 ≤ q → q < L.1 → L.2.1 q ≠ k)
def yl_byp (K V : Int → Int) (L : zLW) (hf to : Int → Int) (k s x : Int) : Prop := s = 0 → ∀ q, 0 ≤ q → q < L.1 → L.2.1 q = k → ∀ j, hf q ≤ j → j < to q → K j = 1 → V j ≠ x
def yl_fl (K V : Int → Int) (L : zLW) (hf to : Int → Int) (tS tL sP lP : Int) : Prop :=
  (yl_tell L 118 tS ∧ yl_tell L 106 tL) ∧ (yl_byp K V L hf to 118 sP 10 ∧ yl_byp K V L hf to 118 sP 11 ∧ yl_byp K V L hf to 118 sP 12) ∧ yl_byp K V L hf to 106 lP 10 ∧ yl_byp K V L hf to 106 lP 11
/-- one clause more -/
def yl_add (L : zLW) (k : Int) (ρC ρE : (Int → Int) → Option Int) : zLW := (L.1 + 1, zv_up L.2.1 L.1 k, (fun q => if q = L.1 then ρC else L.2.2.1 q), (fun q => if q = L.1 then ρE else L.2.2.2 q))
theorem yl_cl_add {K V K2 V2 : Int → Int} {st st2 k f h : Int} {L : zLW} {fr hf to : Int → Int} {ρC ρE : (Int → Int) → Option Int} (hc : yl_cl K V st L fr hf to) (hK : ∀ j, j < st → K2 j = K j ∧ V2 j = V j) (hk : yl_kind k) (h1 : st ≤ f) (h2 : f ≤ h) (h3 : h < st2) (h0 : 0 ≤ f) (hC : zd_seg true K2 V2 h st2 16 ρC) (hE : yl_am k → zd_seg false K2 V2 f h 16 ρE) : yl_cl K2 V2 st2 (yl_add L k ρC ρE) (zv_up fr L.1 f) (zv_up hf L.1 h) (zv_up to L.1 st2) := by
  intro q q1 q2
  have q2 : q < L.1 + 1 := q2
  show yl_kind (zv_up L.2.1 L.1 k q) ∧ (0 ≤ zv_up fr L.1 f q ∧ zv_up fr L.1 f q ≤ zv_up hf L.1 h q ∧ zv_up hf L.1 h q < zv_up to L.1 st2 q ∧ zv_up to L.1 st2 q ≤ st2) ∧ zd_seg true K2 V2 (zv_up hf L.1 h q) (zv_up to L.1 st2 q) 16 (if q = L.1 then ρC else L.2.2.1 q) ∧ (yl_am (zv_up L.2.1 L.1 k q) → zd_seg false K2 V2 (zv_up fr L.1 f q) (zv_up hf L.1 h q) 16 (if q = L.1 then ρE else L.2.2.2 q))
  by_cases e : q = L.1
  · subst e
    rw [zv_up_s, zv_up_s, zv_up_s, zv_up_s, if_pos rfl, if_pos rfl]
    exact ⟨hk, ⟨h0, h2, h3, Int.le_refl _⟩, hC, hE⟩
  · rw [zv_up_n e, zv_up_n e, zv_up_n e, zv_up_n e, if_neg e, if_neg e]
    obtain ⟨a1, ⟨a2, a3, a4, a5⟩, a6, a7⟩ := hc q q1 (by omega)
    exact ⟨a1, ⟨a2, a3, a4, by omega⟩, zd_seg_fr a6 fun j _ j2 => hK j (by omega), fun h => zd_seg_fr (a7 h) fun j _ j2 => hK j (by omega)⟩
theorem yl_tell_add {L : zLW} {k k2 t : Int} {ρC ρE : (Int → Int) → Option Int} (h0 : 0 ≤ L.1) (h : yl_tell L k t) : yl_tell (yl_add L k2 ρC ρE) k (if k2 = k then 1 else t) := by
  by_cases e : k2 = k
  · rw [if_pos e]
    exact Or.inl ⟨rfl, L.1, h0, by show L.1 < L.1 + 1; omega, by show zv_up L.2.1 L.1 k2 L.1 = k; rw [zv_up_s]; exact e⟩
  · rw [if_neg e]
    rcases h with ⟨a, q, q1, q2, q3⟩ | ⟨a, b⟩
    · exact Or.inl ⟨a, q, q1, by show q < L.1 + 1; omega, by show zv_up L.2.1 L.1 k2 q = k; rw [zv_up_n (by omega)]; exact q3⟩
    · refine Or.inr ⟨a, fun q q1 q2 => ?_⟩
      have q2 : q < L.1 + 1 := q2
      show zv_up L.2.1 L.1 k2 q ≠ k
      by_cases eq : q = L.1
      · rw [eq, zv_up_s]; exact e
      · rw [zv_up_n eq]; exact b q q1 (by omega)
theorem yl_byp_add {K V K2 V2 : Int → Int} {L : zLW} {hf to : Int → Int} {k k2 s s2 x h st st2 : Int} {ρC ρE : (Int → Int) → Option Int} (hb : yl_byp K V L hf to k s x) (hs : s2 = 0 → s = 0 ∧ (k2 = k → ∀ j, h ≤ j → j < st2 → K2 j = 1 → V2 j ≠ x)) (hK : ∀ j, j < st → K2 j = K j ∧ V2 j = V j) (hto : ∀ q, 0 ≤ q → q < L.1 → to q ≤ st) : yl_byp K2 V2 (yl_add L k2 ρC ρE) (zv_up hf L.1 h) (zv_up to L.1 st2) k s2 x := by
  intro e q q1 q2 q3 j j1 j2 j3
  have q2 : q < L.1 + 1 := q2
  have q3 : zv_up L.2.1 L.1 k2 q = k := q3
  obtain ⟨s0, sn⟩ := hs e
  by_cases eq : q = L.1
  · subst eq
    rw [zv_up_s] at q3 j1 j2
    exact sn q3 j j1 j2 j3
  · rw [zv_up_n eq] at q3 j1 j2
    have ht := hto q q1 (by omega)
    obtain ⟨u1, u2⟩ := hK j (by omega)
    rw [u2]
    exact hb s0 q q1 (by omega) q3 j j1 j2 (by rw [← u1]; exact j3)
/-! The class's side. -/
section ZLX
variable {K V T : Int → Int} {len : Int}
theorem ze_hasLetter_l0 {x st : Int} (hst : st ≤ 200) : ∀ (m : Nat) (j : Int) (n : Nat), st - j ≤ m → 0 ≤ j → m < n → (zf_Law_hasLetter_l0 x st K V n j = some (.inl ()) ∧ ∀ i, j ≤ i → i < st → K i = 1 → V i ≠ x) ∨ zf_Law_hasLetter_l0 x st K V n j = some (.inr 1) := by
  intro m
  induction m with
  | zero =>
    intro j n e j0 hn
    obtain ⟨n, rfl⟩ : ∃ q, n = q + 1 := ⟨n - 1, by omega⟩
    refine Or.inl ⟨?_, fun i a b => by omega⟩
    show zf_Law_hasLetter_l0_b x st K V (zf_Law_hasLetter_l0 x st K V n) j = _
    unfold zf_Law_hasLetter_l0_b
    rw [if_neg (by omega)]
  | succ m ih =>
    intro j n e j0 hn
    obtain ⟨n, rfl⟩ : ∃ q, n = q + 1 := ⟨n - 1, by omega⟩
    show (zf_Law_hasLetter_l0_b x st K V (zf_Law_hasLetter_l0 x st K V n) j = _ ∧ _) ∨ zf_Law_hasLetter_l0_b x st K V (zf_Law_hasLetter_l0 x st K V n) j = _
    unfold zf_Law_hasLetter_l0_b
    by_cases hj : j < st
    · rw [if_pos hj, zl_ci j0 (by omega), zi_w_id (x := j + 1) (by omega) (by omega)]
      have i2 := ih (j + 1) n (by omega) (by omega) (by omega)
      have ext : (K j = 1 → V j ≠ x) → (∀ i, j + 1 ≤ i → i < st → K i = 1 → V i ≠ x) → ∀ i, j ≤ i → i < st → K i = 1 → V i ≠ x := fun a b i i1 i2 i3 => by
        by_cases e : i = j
        · subst e; exact a i3
        · exact b i (by omega) i2 i3
      by_cases h1 : K j = 1
      · rw [if_pos h1]
        by_cases h2 : V j = x
        · rw [if_pos h2]; exact Or.inr rfl
        · rw [if_neg h2]
          rcases i2 with ⟨a, b⟩ | a
          · exact Or.inl ⟨a, ext (fun _ => h2) b⟩
          · exact Or.inr a
      · rw [if_neg h1]
        rcases i2 with ⟨a, b⟩ | a
        · exact Or.inl ⟨a, ext (fun h => absurd h h1) b⟩
        · exact Or.inr a
    · rw [if_neg hj]
      exact Or.inl ⟨rfl, fun i a b => by omega⟩
theorem ze_hasLetter {x st j : Int} (hst : st ≤ 200) (j0 : 0 ≤ j) : (zf_Law_hasLetter j x st K V = some 0 ∧ ∀ i, j ≤ i → i < st → K i = 1 → V i ≠ x) ∨ zf_Law_hasLetter j x st K V = some 1 := by
  unfold zf_Law_hasLetter
  rcases ze_hasLetter_l0 (K := K) (V := V) (x := x) hst (st - j).toNat j zi_fu (by omega) j0 (by have : 1000 < zi_fu := (by decide); omega) with ⟨a, b⟩ | a
  · rw [a]; exact Or.inl ⟨rfl, b⟩
  · rw [a]; exact Or.inr rfl
/-- what a clause leaves of the four marks -/
def yl_mk (K V : Int → Int) (k h st tL lP tS sP tL' lP' tS' sP' : Int) : Prop :=
  (tS' = (if k = 118 then 1 else tS) ∧ tL' = if k = 106 then 1 else tL) ∧ (sP' = 0 → sP = 0 ∧ (k = 118 → ∀ j, h ≤ j → j < st → K j = 1 → V j ≠ 10 ∧ V j ≠ 11 ∧ V j ≠ 12)) ∧ (lP' = 0 → lP = 0 ∧ (k = 106 → ∀ j, h ≤ j → j < st → K j = 1 → V j ≠ 10 ∧ V j ≠ 11))
theorem ze_addClause {k f h nc st tL lP tS sP : Int} {g0 g1 g2 g3 : Int → Int} (n1 : 0 ≤ nc) (n2 : nc < 14) (h0 : 0 ≤ h) (hst : st ≤ 200) : ∃ tL' lP' tS' sP', zf_Law_addClause k f h nc st tL lP tS sP g0 g1 g2 g3 K V = some (nc + 1, tL', lP', tS', sP', zv_up g0 nc k, zv_up g1 nc f, zv_up g2 nc h, zv_up g3 nc st) ∧ yl_mk K V k h st tL lP tS sP tL' lP' tS' sP' := by
  have a10 := ze_hasLetter (K := K) (V := V) (x := 10) (st := st) (j := h) hst h0
  have a11 := ze_hasLetter (K := K) (V := V) (x := 11) (st := st) (j := h) hst h0
  have a12 := ze_hasLetter (K := K) (V := V) (x := 12) (st := st) (j := h) hst h0
  unfold zf_Law_addClause yl_mk
  rw [if_pos n2, zl_ci n1 (by omega), zi_w_id (x := nc + 1) (by omega) (by omega)]
  by_cases h118 : k = 118
  · subst h118
    rw [if_pos rfl]
    have no : ¬ (118 : Int) = 106 := by decide
    by_cases hs : sP = 0
    · rw [if_pos hs]
      rcases a10 with ⟨e10, b10⟩ | e10
      · rw [e10, zl_b, if_pos rfl]
        rcases a11 with ⟨e11, b11⟩ | e11
        · rw [e11, zl_b, if_pos rfl]
          rcases a12 with ⟨e12, b12⟩ | e12
          · rw [e12, zl_b, if_pos rfl]
            exact ⟨tL, lP, 1, 0, rfl, ⟨by rw [if_pos rfl], by rw [if_neg no]⟩, fun _ => ⟨hs, fun _ j j1 j2 j3 => ⟨b10 j j1 j2 j3, b11 j j1 j2 j3, b12 j j1 j2 j3⟩⟩, fun e => ⟨e, fun h => absurd h no⟩⟩
          · rw [e12, zl_b, if_neg (by decide)]
            exact ⟨tL, lP, 1, 1, rfl, ⟨by rw [if_pos rfl], by rw [if_neg no]⟩, fun e => absurd e (by decide), fun e => ⟨e, fun h => absurd h no⟩⟩
        · rw [e11, zl_b, if_neg (by decide)]
          exact ⟨tL, lP, 1, 1, rfl, ⟨by rw [if_pos rfl], by rw [if_neg no]⟩, fun e => absurd e (by decide), fun e => ⟨e, fun h => absurd h no⟩⟩
      · rw [e10, zl_b, if_neg (by decide)]
        exact ⟨tL, lP, 1, 1, rfl, ⟨by rw [if_pos rfl], by rw [if_neg no]⟩, fun e => absurd e (by decide), fun e => ⟨e, fun h => absurd h no⟩⟩
    · rw [if_neg hs]
      exact ⟨tL, lP, 1, 1, rfl, ⟨by rw [if_pos rfl], by rw [if_neg no]⟩, fun e => absurd e (by decide), fun e => ⟨e, fun h => absurd h no⟩⟩
  · rw [if_neg h118]
    by_cases h106 : k = 106
    · subst h106
      rw [if_pos rfl]
      by_cases hs : lP = 0
      · rw [if_pos hs]
        rcases a10 with ⟨e10, b10⟩ | e10
        · rw [e10, zl_b, if_pos rfl]
          rcases a11 with ⟨e11, b11⟩ | e11
          · rw [e11, zl_b, if_pos rfl]
            exact ⟨1, 0, tS, sP, rfl, ⟨by rw [if_neg h118], by rw [if_pos rfl]⟩, fun e => ⟨e, fun h => absurd h h118⟩, fun _ => ⟨hs, fun _ j j1 j2 j3 => ⟨b10 j j1 j2 j3, b11 j j1 j2 j3⟩⟩⟩
          · rw [e11, zl_b, if_neg (by decide)]
            exact ⟨1, 1, tS, sP, rfl, ⟨by rw [if_neg h118], by rw [if_pos rfl]⟩, fun e => ⟨e, fun h => absurd h h118⟩, fun e => absurd e (by decide)⟩
        · rw [e10, zl_b, if_neg (by decide)]
          exact ⟨1, 1, tS, sP, rfl, ⟨by rw [if_neg h118], by rw [if_pos rfl]⟩, fun e => ⟨e, fun h => absurd h h118⟩, fun e => absurd e (by decide)⟩
      · rw [if_neg hs]
        exact ⟨1, 1, tS, sP, rfl, ⟨by rw [if_neg h118], by rw [if_pos rfl]⟩, fun e => ⟨e, fun h => absurd h h118⟩, fun e => absurd e (by decide)⟩
    · rw [if_neg h106]
      exact ⟨tL, lP, tS, sP, rfl, ⟨by rw [if_neg h118], by rw [if_neg h106]⟩, fun e => ⟨e, fun h => absurd h h118⟩, fun e => ⟨e, fun h => absurd h h106⟩⟩
theorem ze_addClause_a {k f h nc st tL lP tS sP : Int} {g0 g1 g2 g3 : Int → Int} (n1 : 0 ≤ nc) (n2 : nc ≤ 14) (h0 : 0 ≤ h) (hst : st ≤ 200) : ∃ o, zf_Law_addClause k f h nc st tL lP tS sP g0 g1 g2 g3 K V = some o := by
  by_cases hn : nc < 14
  · obtain ⟨_, _, _, _, e, _⟩ := ze_addClause (K := K) (V := V) (k := k) (f := f) (tL := tL) (lP := lP) (tS := tS) (sP := sP) (g0 := g0) (g1 := g1) (g2 := g2) (g3 := g3) n1 hn h0 hst
    exact ⟨_, e⟩
  · unfold zf_Law_addClause
    rw [if_neg hn]
    exact ⟨_, rfl⟩
/-! a fault is there already -/
theorem yr_partf {rc : zRC} {o f p c : Int} (hf : f ≠ 0) (hr : rc 2 o f p len c T K V = some (f, p, c, K, V)) : zm_LawReader_readPart rc o f p len c T K V = some (f, p, c, K, V) := by
  unfold zm_LawReader_readPart
  rw [hr, zl_b, show zi_fu = (zi_fu - 1) + 1 from by decide, yr_part_f hf, zl_b]
theorem yr_condf {rc : zRC} {o f p c : Int} (hf : f ≠ 0) (hr : rc 1 o f p len c T K V = some (f, p, c, K, V)) : zm_LawReader_readCondition rc o f p len c T K V = some (f, p, c, K, V) := by
  unfold zm_LawReader_readCondition
  rw [hr, zl_b, show zi_fu = (zi_fu - 1) + 1 from by decide, yr_cond_f hf, zl_b]
theorem yr_readCondf {f p c : Int} (hf : f ≠ 0) (p1 : 0 ≤ p) (hl : len ≤ 220) : zf_LawReader_readCondition 1 f p len c T K V = some (f, p, c, K, V) := by
  refine yr_condf (rc := zg_LawReader_readCondition 39) hf ?_
  refine yr_partf (rc := zg_LawReader_readCondition 38) hf ?_
  show zm_LawReader_readPiece (zg_LawReader_readCondition 37) 1 f p len c T K V = _
  unfold zm_LawReader_readPiece
  rw [ze_peek p1 hl, zl_b, if_neg hf]
end ZLX
