/-! What a law comes to: on both sides the same. -/
def yl_anyF (L : zLW) (k : Int) (lt : Int → Int) : Nat → Int → Bool
  | 0, _ => false
  | m + 1, q => if L.2.1 q = k ∧ L.2.2.1 q lt = some 1 then true else yl_anyF L k lt m (q + 1)
def yl_any (L : zLW) (k : Int) (lt : Int → Int) : Bool := yl_anyF L k lt L.1.toNat 0
def yl_clm (high : Int) (r : Option Int) : Int := match r with
  | none => 0
  | some v => if v < 0 then 0 else if high < v then high else v
def yl_amtF (L : zLW) (k high : Int) (lt : Int → Int) : Nat → Int → Int
  | 0, _ => 0
  | m + 1, q => if L.2.1 q = k ∧ L.2.2.1 q lt = some 1 then yl_clm high (L.2.2.2 q lt) else yl_amtF L k high lt m (q + 1)
def yl_amt (L : zLW) (k high : Int) (lt : Int → Int) : Int := yl_amtF L k high lt L.1.toNat 0
section YLA
variable {L : zLW} {K V kd fr hf to C mk mf mh mt : Int → Int} {nc tS tL sP lP mc : Int} {lt : Int → Int}
theorem yl_run (R : yl_R L K V nc tS tL sP lP kd fr hf to mc C mk mf mh mt) {q : Int} (q1 : 0 ≤ q) (q2 : q < nc) :
    (∀ lt v, L.2.2.1 q lt = some v → v = 0 ∨ v = 1) ∧ (∀ f0 S lt, ∃ S', zf_Law_run (hf q) (to q) f0 K S V lt = some ((match L.2.2.1 q lt with | none => ((0 : Int), f0) | some v => ((1 : Int), v)).1, (match L.2.2.1 q lt with | none => ((0 : Int), f0) | some v => ((1 : Int), v)).2, S')) ∧ (∀ S lt, ∃ S', zf_M_comesTo (hf q) (to q) C S lt = some ((match L.2.2.1 q lt with | none => (0 : Int) | some v => v), S')) ∧
    (yl_am (L.2.1 q) → (∀ f0 S lt, ∃ S', zf_Law_run (fr q) (hf q) f0 K S V lt = some ((match L.2.2.2 q lt with | none => ((0 : Int), f0) | some v => ((1 : Int), v)).1, (match L.2.2.2 q lt with | none => ((0 : Int), f0) | some v => ((1 : Int), v)).2, S')) ∧ ∀ S lt, ∃ S', zf_M_comesTo (fr q) (hf q) C S lt = some ((match L.2.2.2 q lt with | none => (0 : Int) | some v => v), S')) := by
  obtain ⟨⟨r1, r2, r3, r4⟩, r5, st, r6, r7, r8, r9⟩ := R
  obtain ⟨a1, ⟨a2, a3, a4, a5⟩, a6, a7⟩ := r7 q q1 (by omega)
  have ag : ∀ a b, 0 ≤ a → b ≤ st → zd_ag K V a b K V C := fun a b a0 b0 j j1 j2 => ⟨rfl, rfl, r9 j (by omega) (by omega)⟩
  have z1 := fun lt => zd_run a6 (by decide) (by omega) (ag _ _ (by omega) a5) lt
  refine ⟨a6.2.1 rfl, fun f0 S lt => (z1 lt).1 f0 S, fun S lt => (z1 lt).2 S, fun ha => ?_⟩
  have z2 := fun lt => zd_run (a7 ha) (by decide) (by omega) (ag _ _ a2 (by omega)) lt
  exact ⟨fun f0 S lt => (z2 lt).1 f0 S, fun S lt => (z2 lt).2 S⟩
theorem yl_anyX_l (R : yl_R L K V nc tS tL sP lP kd fr hf to mc C mk mf mh mt) {k : Int} : ∀ (d : Nat) (q f1 : Int) (S : Int → Int) (n : Nat), q + d = nc → 0 ≤ q → d < n →
    ∃ a S', zf_Law_anyHolds_l0 k nc kd hf to K V lt n q f1 S = some (if yl_anyF L k lt d q = true then .inr (1, a, S') else .inl (a, S')) := by
  intro d
  induction d with
  | zero =>
    intro q f1 S n e q0 hn
    obtain ⟨n, rfl⟩ : ∃ z, n = z + 1 := ⟨n - 1, by omega⟩
    refine ⟨f1, S, ?_⟩
    show zf_Law_anyHolds_l0_b k nc kd hf to K V lt (zf_Law_anyHolds_l0 k nc kd hf to K V lt n) q f1 S = _
    unfold zf_Law_anyHolds_l0_b
    rw [if_neg (by omega), if_neg (show ¬ yl_anyF L k lt 0 q = true by simp [yl_anyF])]
  | succ d ih =>
    intro q f1 S n e q0 hn
    obtain ⟨n, rfl⟩ : ∃ z, n = z + 1 := ⟨n - 1, by omega⟩
    have hnc := R.1
    obtain ⟨k1, -⟩ := R.2.1 q q0 (by omega)
    obtain ⟨c1, c2, -, -⟩ := yl_run R q0 (show q < nc by omega)
    show ∃ a S', zf_Law_anyHolds_l0_b k nc kd hf to K V lt (zf_Law_anyHolds_l0 k nc kd hf to K V lt n) q f1 S = _
    unfold zf_Law_anyHolds_l0_b
    rw [if_pos (by omega), zl_ci q0 (by omega), k1, zi_w_id (x := q + 1) (by omega) (by omega)]
    have next : ¬ (L.2.1 q = k ∧ L.2.2.1 q lt = some 1) → ∀ f S, ∃ a S', zf_Law_anyHolds_l0 k nc kd hf to K V lt n (q + 1) f S = some (if yl_anyF L k lt (d + 1) q = true then .inr (1, a, S') else .inl (a, S')) := by
      intro hno f S
      rw [show yl_anyF L k lt (d + 1) q = yl_anyF L k lt d (q + 1) from if_neg hno]
      exact ih (q + 1) f S n (by omega) (by omega) (by omega)
    by_cases hk : L.2.1 q = k
    · rw [if_pos hk]
      obtain ⟨S', e1⟩ := c2 f1 S lt
      rw [e1, zl_b]
      cases hr : L.2.2.1 q lt with
      | none =>
        dsimp only
        rw [if_pos rfl]
        exact next (fun h => by rw [hr] at h; cases h.2) _ _
      | some v =>
        dsimp only
        rw [if_neg (show ¬ (1 : Int) = 0 by decide)]
        rcases c1 lt v hr with h | h
        · subst h
          rw [if_pos rfl]
          exact next (fun h => by rw [hr] at h; cases h.2) _ _
        · subst h
          rw [if_neg (show ¬ (1 : Int) = 0 by decide), show yl_anyF L k lt (d + 1) q = true from if_pos ⟨hk, hr⟩]
          exact ⟨_, _, rfl⟩
    · rw [if_neg hk]
      exact next (fun h => hk h.1) _ _
theorem yl_anyX (R : yl_R L K V nc tS tL sP lP kd fr hf to mc C mk mf mh mt) {k f1 : Int} {S : Int → Int} : ∃ a S', zf_Law_anyHolds k nc f1 kd hf to K S V lt = some ((if yl_any L k lt = true then 1 else 0), a, S') := by
  have hnc := R.1
  obtain ⟨a, S', e⟩ := yl_anyX_l (lt := lt) (k := k) R L.1.toNat 0 f1 S zi_fu (by omega) (by decide) (by have : 1000 < zi_fu := (by decide); omega)
  refine ⟨a, S', ?_⟩
  unfold zf_Law_anyHolds
  rw [e, zl_b]
  unfold yl_any
  by_cases h : yl_anyF L k lt L.1.toNat 0 = true
  · rw [if_pos h, if_pos h]; rfl
  · rw [if_neg h, if_neg h]; rfl
theorem yl_anyM_l (R : yl_R L K V nc tS tL sP lP kd fr hf to mc C mk mf mh mt) {k : Int} : ∀ (d : Nat) (q : Int) (S : Int → Int) (n : Nat), q + d = nc → 0 ≤ q → d < n →
    ∃ S', zf_M_anyOf_l0 k mc mk mh mt C lt n q S = some (if yl_anyF L k lt d q = true then .inr (1, S') else .inl S') := by
  intro d
  induction d with
  | zero =>
    intro q S n e q0 hn
    obtain ⟨n, rfl⟩ : ∃ z, n = z + 1 := ⟨n - 1, by omega⟩
    have hnc := R.1
    refine ⟨S, ?_⟩
    show zf_M_anyOf_l0_b k mc mk mh mt C lt (zf_M_anyOf_l0 k mc mk mh mt C lt n) q S = _
    unfold zf_M_anyOf_l0_b
    rw [if_neg (by omega), if_neg (show ¬ yl_anyF L k lt 0 q = true by simp [yl_anyF])]
  | succ d ih =>
    intro q S n e q0 hn
    obtain ⟨n, rfl⟩ : ∃ z, n = z + 1 := ⟨n - 1, by omega⟩
    have hnc := R.1
    obtain ⟨-, k1, -, k3, k4⟩ := R.2.1 q q0 (by omega)
    obtain ⟨c1, -, c2, -⟩ := yl_run R q0 (show q < nc by omega)
    show ∃ S', zf_M_anyOf_l0_b k mc mk mh mt C lt (zf_M_anyOf_l0 k mc mk mh mt C lt n) q S = _
    unfold zf_M_anyOf_l0_b
    rw [if_pos (by omega), zl_ci q0 (by omega), k1, k3, k4, zi_w_id (x := q + 1) (by omega) (by omega)]
    have next : ¬ (L.2.1 q = k ∧ L.2.2.1 q lt = some 1) → ∀ S, ∃ S', zf_M_anyOf_l0 k mc mk mh mt C lt n (q + 1) S = some (if yl_anyF L k lt (d + 1) q = true then .inr (1, S') else .inl S') := by
      intro hno S
      rw [show yl_anyF L k lt (d + 1) q = yl_anyF L k lt d (q + 1) from if_neg hno]
      exact ih (q + 1) S n (by omega) (by omega) (by omega)
    by_cases hk : L.2.1 q = k
    · rw [if_pos hk]
      obtain ⟨S', e1⟩ := c2 S lt
      rw [e1, zl_b]
      cases hr : L.2.2.1 q lt with
      | none =>
        dsimp only
        rw [if_neg (show ¬ (0 : Int) = 1 by decide)]
        exact next (fun h => by rw [hr] at h; cases h.2) _
      | some v =>
        dsimp only
        rcases c1 lt v hr with h | h
        · subst h
          rw [if_neg (show ¬ (0 : Int) = 1 by decide)]
          exact next (fun h => by rw [hr] at h; cases h.2) _
        · subst h
          rw [if_pos rfl, show yl_anyF L k lt (d + 1) q = true from if_pos ⟨hk, hr⟩]
          exact ⟨_, rfl⟩
    · rw [if_neg hk]
      exact next (fun h => hk h.1) _
theorem yl_anyM (R : yl_R L K V nc tS tL sP lP kd fr hf to mc C mk mf mh mt) {k : Int} {S : Int → Int} : ∃ S', zf_M_anyOf k mc mk mh mt C S lt = some ((if yl_any L k lt = true then 1 else 0), S') := by
  have hnc := R.1
  obtain ⟨S', e⟩ := yl_anyM_l (lt := lt) (k := k) R L.1.toNat 0 S zi_fu (by omega) (by decide) (by have : 1000 < zi_fu := (by decide); omega)
  refine ⟨S', ?_⟩
  unfold zf_M_anyOf
  rw [e, zl_b]
  unfold yl_any
  by_cases h : yl_anyF L k lt L.1.toNat 0 = true
  · rw [if_pos h, if_pos h]; rfl
  · rw [if_neg h, if_neg h]; rfl
theorem yl_amtX_l (R : yl_R L K V nc tS tL sP lP kd fr hf to mc C mk mf mh mt) {k high : Int} (hk0 : yl_am k) (hh : 0 ≤ high) : ∀ (d : Nat) (q f1 : Int) (S : Int → Int) (n : Nat), q + d = nc → 0 ≤ q → d < n →
    ∃ a S', (zf_Law_amount_l0 k high nc kd hf to K V lt fr n q f1 S = some (.inr (yl_amtF L k high lt d q, a, S'))) ∨ (zf_Law_amount_l0 k high nc kd hf to K V lt fr n q f1 S = some (.inl (a, S')) ∧ yl_amtF L k high lt d q = 0) := by
  intro d
  induction d with
  | zero =>
    intro q f1 S n e q0 hn
    obtain ⟨n, rfl⟩ : ∃ z, n = z + 1 := ⟨n - 1, by omega⟩
    refine ⟨f1, S, Or.inr ⟨?_, rfl⟩⟩
    show zf_Law_amount_l0_b k high nc kd hf to K V lt fr (zf_Law_amount_l0 k high nc kd hf to K V lt fr n) q f1 S = _
    unfold zf_Law_amount_l0_b
    rw [if_neg (by omega)]
  | succ d ih =>
    intro q f1 S n e q0 hn
    obtain ⟨n, rfl⟩ : ∃ z, n = z + 1 := ⟨n - 1, by omega⟩
    have hnc := R.1
    obtain ⟨k1, -⟩ := R.2.1 q q0 (by omega)
    obtain ⟨c1, c2, -, c4⟩ := yl_run R q0 (show q < nc by omega)
    show ∃ a S', (zf_Law_amount_l0_b k high nc kd hf to K V lt fr (zf_Law_amount_l0 k high nc kd hf to K V lt fr n) q f1 S = _) ∨ (zf_Law_amount_l0_b k high nc kd hf to K V lt fr (zf_Law_amount_l0 k high nc kd hf to K V lt fr n) q f1 S = _ ∧ _)
    unfold zf_Law_amount_l0_b
    rw [if_pos (by omega), zl_ci q0 (by omega), k1, zi_w_id (x := q + 1) (by omega) (by omega)]
    have next : ¬ (L.2.1 q = k ∧ L.2.2.1 q lt = some 1) → ∀ f S, ∃ a S', (zf_Law_amount_l0 k high nc kd hf to K V lt fr n (q + 1) f S = some (.inr (yl_amtF L k high lt (d + 1) q, a, S'))) ∨ (zf_Law_amount_l0 k high nc kd hf to K V lt fr n (q + 1) f S = some (.inl (a, S')) ∧ yl_amtF L k high lt (d + 1) q = 0) := by
      intro hno f S
      rw [show yl_amtF L k high lt (d + 1) q = yl_amtF L k high lt d (q + 1) from if_neg hno]
      exact ih (q + 1) f S n (by omega) (by omega) (by omega)
    by_cases hk : L.2.1 q = k
    · rw [if_pos hk]
      obtain ⟨S', e1⟩ := c2 f1 S lt
      rw [e1, zl_b]
      cases hr : L.2.2.1 q lt with
      | none =>
        dsimp only
        rw [if_pos rfl]
        exact next (fun h => by rw [hr] at h; cases h.2) _ _
      | some v =>
        dsimp only
        rw [if_neg (show ¬ (1 : Int) = 0 by decide)]
        rcases c1 lt v hr with h | h
        · subst h
          rw [if_pos rfl]
          exact next (fun h => by rw [hr] at h; cases h.2) _ _
        · subst h
          rw [if_neg (show ¬ (1 : Int) = 0 by decide), show yl_amtF L k high lt (d + 1) q = yl_clm high (L.2.2.2 q lt) from if_pos ⟨hk, hr⟩]
          obtain ⟨c4, -⟩ := c4 (by rw [hk]; exact hk0)
          obtain ⟨S2, e2⟩ := c4 1 S' lt
          rw [e2, zl_b]
          cases hr2 : L.2.2.2 q lt with
          | none =>
            dsimp only
            rw [if_pos rfl]
            exact ⟨_, _, Or.inl rfl⟩
          | some v =>
            dsimp only
            rw [if_neg (show ¬ (1 : Int) = 0 by decide), ze_Math_min, zl_b, ze_Math_max, zl_b]
            refine ⟨v, S2, Or.inl ?_⟩
            have : (if 0 < (if v < high then v else high) then (if v < high then v else high) else 0) = yl_clm high (some v) := by
              show _ = if v < 0 then 0 else if high < v then high else v
              (repeat' split) <;> omega
            rw [this]
    · rw [if_neg hk]
      exact next (fun h => hk h.1) _ _
theorem yl_amtX (R : yl_R L K V nc tS tL sP lP kd fr hf to mc C mk mf mh mt) {k high f1 : Int} {S : Int → Int} (hk0 : yl_am k) (hh : 0 ≤ high) : ∃ a S', zf_Law_amount k high nc f1 kd hf to K S V lt fr = some (yl_amt L k high lt, a, S') := by
  have hnc := R.1
  obtain ⟨a, S', e⟩ := yl_amtX_l (lt := lt) (k := k) R hk0 hh L.1.toNat 0 f1 S zi_fu (by omega) (by decide) (by have : 1000 < zi_fu := (by decide); omega)
  refine ⟨a, S', ?_⟩
  unfold zf_Law_amount yl_amt
  rcases e with e | ⟨e, e0⟩
  · rw [e, zl_b]; rfl
  · rw [e, zl_b, e0]; rfl
theorem yl_amtM_l (R : yl_R L K V nc tS tL sP lP kd fr hf to mc C mk mf mh mt) {k high : Int} (hk0 : yl_am k) (hh : 0 ≤ high) : ∀ (d : Nat) (q : Int) (S : Int → Int) (n : Nat), q + d = nc → 0 ≤ q → d < n →
    ∃ S', (zf_M_byLaw_l0 k high mc mk mh mt C lt mf n q S = some (.inr (yl_amtF L k high lt d q, S'))) ∨ (zf_M_byLaw_l0 k high mc mk mh mt C lt mf n q S = some (.inl S') ∧ yl_amtF L k high lt d q = 0) := by
  intro d
  induction d with
  | zero =>
    intro q S n e q0 hn
    obtain ⟨n, rfl⟩ : ∃ z, n = z + 1 := ⟨n - 1, by omega⟩
    have hnc := R.1
    refine ⟨S, Or.inr ⟨?_, rfl⟩⟩
    show zf_M_byLaw_l0_b k high mc mk mh mt C lt mf (zf_M_byLaw_l0 k high mc mk mh mt C lt mf n) q S = _
    unfold zf_M_byLaw_l0_b
    rw [if_neg (by omega)]
  | succ d ih =>
    intro q S n e q0 hn
    obtain ⟨n, rfl⟩ : ∃ z, n = z + 1 := ⟨n - 1, by omega⟩
    have hnc := R.1
    obtain ⟨-, k1, k2, k3, k4⟩ := R.2.1 q q0 (by omega)
    obtain ⟨c1, -, c2, c4⟩ := yl_run R q0 (show q < nc by omega)
    show ∃ S', (zf_M_byLaw_l0_b k high mc mk mh mt C lt mf (zf_M_byLaw_l0 k high mc mk mh mt C lt mf n) q S = _) ∨ (zf_M_byLaw_l0_b k high mc mk mh mt C lt mf (zf_M_byLaw_l0 k high mc mk mh mt C lt mf n) q S = _ ∧ _)
    unfold zf_M_byLaw_l0_b
    rw [if_pos (by omega), zl_ci q0 (by omega), k1, k2, k3, k4, zi_w_id (x := q + 1) (by omega) (by omega)]
    have next : ¬ (L.2.1 q = k ∧ L.2.2.1 q lt = some 1) → ∀ S, ∃ S', (zf_M_byLaw_l0 k high mc mk mh mt C lt mf n (q + 1) S = some (.inr (yl_amtF L k high lt (d + 1) q, S'))) ∨ (zf_M_byLaw_l0 k high mc mk mh mt C lt mf n (q + 1) S = some (.inl S') ∧ yl_amtF L k high lt (d + 1) q = 0) := by
      intro hno S
      rw [show yl_amtF L k high lt (d + 1) q = yl_amtF L k high lt d (q + 1) from if_neg hno]
      exact ih (q + 1) S n (by omega) (by omega) (by omega)
    by_cases hk : L.2.1 q = k
    · rw [if_pos hk]
      obtain ⟨S', e1⟩ := c2 S lt
      rw [e1, zl_b]
      cases hr : L.2.2.1 q lt with
      | none =>
        dsimp only
        rw [if_neg (show ¬ (0 : Int) = 1 by decide)]
        exact next (fun h => by rw [hr] at h; cases h.2) _
      | some v =>
        dsimp only
        rcases c1 lt v hr with h | h
        · subst h
          rw [if_neg (show ¬ (0 : Int) = 1 by decide)]
          exact next (fun h => by rw [hr] at h; cases h.2) _
        · subst h
          rw [if_pos rfl, show yl_amtF L k high lt (d + 1) q = yl_clm high (L.2.2.2 q lt) from if_pos ⟨hk, hr⟩]
          obtain ⟨-, c4⟩ := c4 (by rw [hk]; exact hk0)
          obtain ⟨S2, e2⟩ := c4 S' lt
          rw [e2, zl_b]
          cases hr2 : L.2.2.2 q lt with
          | none =>
            dsimp only
            rw [if_neg (show ¬ (0 : Int) < 0 by decide), if_neg (show ¬ high < 0 by omega)]
            exact ⟨_, Or.inl rfl⟩
          | some v =>
            refine ⟨S2, Or.inl ?_⟩
            dsimp only [yl_clm]
            (repeat' split) <;> rfl
    · rw [if_neg hk]
      exact next (fun h => hk h.1) _
theorem yl_amtM (R : yl_R L K V nc tS tL sP lP kd fr hf to mc C mk mf mh mt) {k high : Int} {S : Int → Int} (hk0 : yl_am k) (hh : 0 ≤ high) : ∃ S', zf_M_byLaw k high mc mk mh mt C S lt mf = some (yl_amt L k high lt, S') := by
  have hnc := R.1
  obtain ⟨S', e⟩ := yl_amtM_l (lt := lt) (k := k) R hk0 hh L.1.toNat 0 S zi_fu (by omega) (by decide) (by have : 1000 < zi_fu := (by decide); omega)
  refine ⟨S', ?_⟩
  unfold zf_M_byLaw yl_amt
  rcases e with e | ⟨e, e0⟩
  · rw [e, zl_b]; rfl
  · rw [e, zl_b, e0]; rfl
/-- letters that agree -/
theorem yl_any_c (R : yl_R L K V nc tS tL sP lP kd fr hf to mc C mk mf mh mt) {k : Int} {lt lt2 : Int → Int} (h : ∀ j, 0 ≤ j → j < 13 → lt j = lt2 j) : yl_any L k lt = yl_any L k lt2 := by
  obtain ⟨⟨r1, r2, r3, r4⟩, r5, st, r6, r7, r8, r9⟩ := R
  have : ∀ (d : Nat) (q : Int), q + d = L.1 → 0 ≤ q → yl_anyF L k lt d q = yl_anyF L k lt2 d q := by
    intro d
    induction d with
    | zero => intro q _ _; rfl
    | succ d ih =>
      intro q e q0
      obtain ⟨a1, -, a6, -⟩ := r7 q q0 (by omega)
      have e1 := a6.2.2.1 lt lt2 fun j _ _ _ v1 v2 => h _ v1 v2
      show (if _ then true else _) = (if _ then true else _)
      rw [e1, ih (q + 1) (by omega) (by omega)]
  exact this L.1.toNat 0 (by omega) (by decide)
theorem yl_amt_c (R : yl_R L K V nc tS tL sP lP kd fr hf to mc C mk mf mh mt) {k high : Int} (hk0 : yl_am k) {lt lt2 : Int → Int} (h : ∀ j, 0 ≤ j → j < 13 → lt j = lt2 j) : yl_amt L k high lt = yl_amt L k high lt2 := by
  obtain ⟨⟨r1, r2, r3, r4⟩, r5, st, r6, r7, r8, r9⟩ := R
  have : ∀ (d : Nat) (q : Int), q + d = L.1 → 0 ≤ q → yl_amtF L k high lt d q = yl_amtF L k high lt2 d q := by
    intro d
    induction d with
    | zero => intro q _ _; rfl
    | succ d ih =>
      intro q e q0
      obtain ⟨a1, -, a6, a7⟩ := r7 q q0 (by omega)
      have e1 := a6.2.2.1 lt lt2 fun j _ _ _ v1 v2 => h _ v1 v2
      show (if L.2.1 q = k ∧ L.2.2.1 q lt = some 1 then yl_clm high (L.2.2.2 q lt) else _) = (if L.2.1 q = k ∧ L.2.2.1 q lt2 = some 1 then yl_clm high (L.2.2.2 q lt2) else _)
      rw [e1, ih (q + 1) (by omega) (by omega)]
      by_cases hk : L.2.1 q = k
      · rw [(a7 (by rw [hk]; exact hk0)).2.2.1 lt lt2 fun j _ _ _ v1 v2 => h _ v1 v2]
      · rw [if_neg (fun h => hk h.1), if_neg (fun h => hk h.1)]
  exact this L.1.toNat 0 (by omega) (by decide)
/-- a law that does not ask for the place -/
theorem yl_any_v (R : yl_R L K V nc tS tL sP lP kd fr hf to mc C mk mf mh mt) (hs : sP = 0) {lt lt2 : Int → Int} (h : ∀ j, 0 ≤ j → j < 10 → lt j = lt2 j) : yl_any L 118 lt = yl_any L 118 lt2 := by
  obtain ⟨⟨r1, r2, r3, r4⟩, r5, st, r6, r7, ⟨-, ⟨b1, b2, b3⟩, -⟩, r9⟩ := R
  have : ∀ (d : Nat) (q : Int), q + d = L.1 → 0 ≤ q → yl_anyF L 118 lt d q = yl_anyF L 118 lt2 d q := by
    intro d
    induction d with
    | zero => intro q _ _; rfl
    | succ d ih =>
      intro q e q0
      obtain ⟨a1, -, a6, -⟩ := r7 q q0 (by omega)
      show (if L.2.1 q = 118 ∧ L.2.2.1 q lt = some 1 then true else _) = (if L.2.1 q = 118 ∧ L.2.2.1 q lt2 = some 1 then true else _)
      rw [ih (q + 1) (by omega) (by omega)]
      by_cases hk : L.2.1 q = 118
      · rw [a6.2.2.1 lt lt2 fun j j1 j2 j3 v1 v2 => h _ v1 (by
          have w1 := b1 hs q q0 (by omega) hk j j1 j2 j3
          have w2 := b2 hs q q0 (by omega) hk j j1 j2 j3
          have w3 := b3 hs q q0 (by omega) hk j j1 j2 j3
          omega)]
      · rw [if_neg (fun h => hk h.1), if_neg (fun h => hk h.1)]
  exact this L.1.toNat 0 (by omega) (by decide)
theorem yl_any_j (R : yl_R L K V nc tS tL sP lP kd fr hf to mc C mk mf mh mt) (hs : lP = 0) {lt lt2 : Int → Int} (h : ∀ j, 0 ≤ j → j < 13 → j ≠ 10 → j ≠ 11 → lt j = lt2 j) : yl_any L 106 lt = yl_any L 106 lt2 := by
  obtain ⟨⟨r1, r2, r3, r4⟩, r5, st, r6, r7, ⟨-, -, b1, b2⟩, r9⟩ := R
  have : ∀ (d : Nat) (q : Int), q + d = L.1 → 0 ≤ q → yl_anyF L 106 lt d q = yl_anyF L 106 lt2 d q := by
    intro d
    induction d with
    | zero => intro q _ _; rfl
    | succ d ih =>
      intro q e q0
      obtain ⟨a1, -, a6, -⟩ := r7 q q0 (by omega)
      show (if L.2.1 q = 106 ∧ L.2.2.1 q lt = some 1 then true else _) = (if L.2.1 q = 106 ∧ L.2.2.1 q lt2 = some 1 then true else _)
      rw [ih (q + 1) (by omega) (by omega)]
      by_cases hk : L.2.1 q = 106
      · rw [a6.2.2.1 lt lt2 fun j j1 j2 j3 v1 v2 => h _ v1 v2 (b1 hs q q0 (by omega) hk j j1 j2 j3) (b2 hs q q0 (by omega) hk j j1 j2 j3)]
      · rw [if_neg (fun h => hk h.1), if_neg (fun h => hk h.1)]
  exact this L.1.toNat 0 (by omega) (by decide)
/-- a kind that no clause is of -/
theorem yl_any_0 {k : Int} (h : ∀ q, 0 ≤ q → q < L.1 → L.2.1 q ≠ k) (h0 : 0 ≤ L.1) : yl_any L k lt = false := by
  have : ∀ (d : Nat) (q : Int), q + d = L.1 → 0 ≤ q → yl_anyF L k lt d q = false := by
    intro d
    induction d with
    | zero => intro q _ _; rfl
    | succ d ih =>
      intro q e q0
      show (if _ then true else _) = false
      rw [if_neg (fun hk => h q q0 (by omega) hk.1)]
      exact ih (q + 1) (by omega) (by omega)
  exact this L.1.toNat 0 (by omega) (by decide)
end YLA
