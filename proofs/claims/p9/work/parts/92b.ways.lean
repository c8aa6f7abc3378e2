/-! The ways in which a tale is matched, on the reference's side: all of them, one after the other. -/
def yw_P (n : Int) (S fr nm to J : Int → Int) (q s : Int) : Prop := ∀ p, 0 ≤ p → p < q → S p ≠ s ∧ (yt_ln n fr to (nm p) (nm q) → zb (J s) (S p).toNat = true)
noncomputable def yw_ok (z n : Int) (fr nm to J : Int → Int) (S : Int → Int) (q s : Int) : Bool := zb z s.toNat && @decide (yw_P n S fr nm to J q s) (Classical.propDecidable _)
def yw_cat {α : Type} (f : Int → List α) : Nat → List α
  | 0 => []
  | k + 1 => f (23 - k) ++ yw_cat f k
def yw_L (ok : (Int → Int) → Int → Int → Bool) : Nat → Int → (Int → Int) → List (Int → Int)
  | 0, _, S => [S]
  | r + 1, q, S => yw_cat (fun s => cond (ok S q s) (yw_L ok r (q + 1) (zv_up S q s)) []) 24
def yw_T : Nat → Nat → Nat
  | 0, _ => 0
  | r + 1, k => 1 + k * (1 + yw_T r 24)
theorem yw_T_st {r k k2 : Nat} (h : k2 + 1 ≤ k) : yw_T (r + 1) k2 + (1 + yw_T r 24) ≤ yw_T (r + 1) k := by
  show 1 + k2 * (1 + yw_T r 24) + (1 + yw_T r 24) ≤ 1 + k * (1 + yw_T r 24)
  have := Nat.mul_le_mul_right (1 + yw_T r 24) h
  rw [Nat.succ_mul] at this
  omega
theorem yw_cat_0 {α : Type} {f : Int → List α} : ∀ k : Nat, k ≤ 24 → (∀ t : Int, 24 - (k : Int) ≤ t → t < 24 → f t = []) → yw_cat f k = []
  | 0, _, _ => rfl
  | k + 1, hk, h => by
    show f (23 - k) ++ yw_cat f k = []
    rw [h (23 - k) (by omega) (by omega), yw_cat_0 k (by omega) fun t t1 t2 => h t (by omega) t2]; rfl
theorem yw_cat_s {α : Type} {f : Int → List α} {s : Int} (s1 : s < 24) : ∀ k : Nat, k ≤ 24 → 24 - (k : Int) ≤ s → (∀ t : Int, 24 - (k : Int) ≤ t → t < s → f t = []) → yw_cat f k = f s ++ yw_cat f (23 - s).toNat
  | 0, _, hs, _ => by omega
  | k + 1, hk, hs, h => by
    show f (23 - k) ++ yw_cat f k = _
    by_cases e : s = 23 - k
    · rw [e, show (23 - (23 - (k : Int))).toNat = k by omega]
    · rw [h (23 - k) (by omega) (by omega), yw_cat_s s1 k (by omega) (by omega) fun t t1 t2 => h t (by omega) t2]; rfl
theorem ze_has2 {t i : Int} (k1 : 0 ≤ i) (k2 : i < 32) : zf_M_has t i = some (if zb t i.toNat = true then 1 else 0) := by
  unfold zf_M_has
  by_cases c : zb t i.toNat = true
  · rw [zb_bit1 k1 k2 c, if_pos rfl, if_pos c]
  · rw [zb_bit0 k1 k2 c, if_neg (by decide), if_neg c]
section YWC
variable {n : Int} {S fr nm to J : Int → Int} {q s : Int}
theorem yw_cb_l (n0 : n ≤ 12) (q1 : q ≤ 7) (s0 : 0 ≤ s) (s1 : s ≤ 23) {p : Int} (p0 : 0 ≤ p) (p1 : p < q) (S0 : 0 ≤ S p) (S1 : S p ≤ 23) : ∀ (d : Nat) (j : Int) (f : Nat), n - j ≤ d → 0 ≤ j → d < f →
    (zf_M_canBe_l1 q s p n S fr nm to J f j = some (.inl ()) ∧ ∀ i, j ≤ i → i < n → ((fr i = nm p ∧ to i = nm q) ∨ (fr i = nm q ∧ to i = nm p)) → zb (J s) (S p).toNat = true) ∨
    (zf_M_canBe_l1 q s p n S fr nm to J f j = some (.inr 0) ∧ (∃ i, j ≤ i ∧ i < n ∧ ((fr i = nm p ∧ to i = nm q) ∨ (fr i = nm q ∧ to i = nm p))) ∧ ¬ zb (J s) (S p).toNat = true) := by
  intro d
  induction d with
  | zero =>
    intro j f e j0 hf
    obtain ⟨f, rfl⟩ : ∃ q, f = q + 1 := ⟨f - 1, by omega⟩
    refine .inl ⟨?_, fun i i0 i1 => by omega⟩
    show zf_M_canBe_l1_b q s p n S fr nm to J (zf_M_canBe_l1 q s p n S fr nm to J f) j = _
    unfold zf_M_canBe_l1_b
    rw [if_neg (by omega)]
  | succ d ih =>
    intro j f e j0 hf
    obtain ⟨f, rfl⟩ : ∃ q, f = q + 1 := ⟨f - 1, by omega⟩
    show (zf_M_canBe_l1_b q s p n S fr nm to J (zf_M_canBe_l1 q s p n S fr nm to J f) j = _ ∧ _) ∨ (zf_M_canBe_l1_b q s p n S fr nm to J (zf_M_canBe_l1 q s p n S fr nm to J f) j = _ ∧ _)
    unfold zf_M_canBe_l1_b
    by_cases c : j < n
    · rw [if_pos c, zl_ci j0 (by omega), zl_ci p0 (by omega), zl_ci (show 0 ≤ q by omega) (by omega), zl_ci (show 0 ≤ q by omega) (by omega), zl_ci s0 (by omega), ze_has2 S0 (by omega), zl_b, zi_w_id (x := j + 1) (by omega) (by omega)]
      have nx := ih (j + 1) f (by omega) (by omega) (by omega)
      have skip : ¬ ((fr j = nm p ∧ to j = nm q) ∨ (fr j = nm q ∧ to j = nm p)) → (zf_M_canBe_l1 q s p n S fr nm to J f (j + 1) = some (.inl ()) ∧ ∀ i, j ≤ i → i < n → ((fr i = nm p ∧ to i = nm q) ∨ (fr i = nm q ∧ to i = nm p)) → zb (J s) (S p).toNat = true) ∨
          (zf_M_canBe_l1 q s p n S fr nm to J f (j + 1) = some (.inr 0) ∧ (∃ i, j ≤ i ∧ i < n ∧ ((fr i = nm p ∧ to i = nm q) ∨ (fr i = nm q ∧ to i = nm p))) ∧ ¬ zb (J s) (S p).toNat = true) := fun hne => by
        rcases nx with ⟨e1, a⟩ | ⟨e1, ⟨i, i0, i1, a⟩, b⟩
        · refine .inl ⟨e1, fun i i0 i1 hi => ?_⟩
          by_cases w : i = j
          · subst w; exact absurd hi hne
          · exact a i (by omega) i1 hi
        · exact .inr ⟨e1, ⟨i, by omega, i1, a⟩, b⟩
      have take : ((fr j = nm p ∧ to j = nm q) ∨ (fr j = nm q ∧ to j = nm p)) → ((if (if zb (J s) (S p).toNat = true then (1 : Int) else 0) = 0 then (some (.inr 0) : Option (Unit ⊕ Int)) else zf_M_canBe_l1 q s p n S fr nm to J f (j + 1)) = some (.inl ()) ∧ ∀ i, j ≤ i → i < n → ((fr i = nm p ∧ to i = nm q) ∨ (fr i = nm q ∧ to i = nm p)) → zb (J s) (S p).toNat = true) ∨
          ((if (if zb (J s) (S p).toNat = true then (1 : Int) else 0) = 0 then (some (.inr 0) : Option (Unit ⊕ Int)) else zf_M_canBe_l1 q s p n S fr nm to J f (j + 1)) = some (.inr 0) ∧ (∃ i, j ≤ i ∧ i < n ∧ ((fr i = nm p ∧ to i = nm q) ∨ (fr i = nm q ∧ to i = nm p))) ∧ ¬ zb (J s) (S p).toNat = true) := fun he => by
        by_cases b : zb (J s) (S p).toNat = true
        · rw [if_pos b, if_neg (show ¬ (1 : Int) = 0 by decide)]
          rcases nx with ⟨e1, a⟩ | ⟨e1, _, a⟩
          · exact .inl ⟨e1, fun _ _ _ _ => b⟩
          · exact absurd b a
        · rw [if_neg b, if_pos rfl]
          exact .inr ⟨rfl, ⟨j, Int.le_refl _, c, he⟩, b⟩
      by_cases a1 : fr j = nm p
      · rw [if_pos a1]
        by_cases a2 : to j = nm q
        · rw [if_pos a2]; exact take (.inl ⟨a1, a2⟩)
        · rw [if_neg a2]
          by_cases a3 : fr j = nm q
          · rw [if_pos a3]
            by_cases a4 : to j = nm p
            · rw [if_pos a4]; exact take (.inr ⟨a3, a4⟩)
            · rw [if_neg a4]; exact skip fun w => w.elim (fun w => a2 w.2) fun w => a4 w.2
          · rw [if_neg a3]; exact skip fun w => w.elim (fun w => a2 w.2) fun w => a3 w.1
      · rw [if_neg a1]
        by_cases a3 : fr j = nm q
        · rw [if_pos a3]
          by_cases a4 : to j = nm p
          · rw [if_pos a4]; exact take (.inr ⟨a3, a4⟩)
          · rw [if_neg a4]; exact skip fun w => w.elim (fun w => a1 w.1) fun w => a4 w.2
        · rw [if_neg a3]; exact skip fun w => w.elim (fun w => a1 w.1) fun w => a3 w.1
    · rw [if_neg c]
      exact .inl ⟨rfl, fun i i0 i1 => by omega⟩
theorem yw_cb_o (n0 : n ≤ 12) (q0 : 0 ≤ q) (q1 : q ≤ 7) (s0 : 0 ≤ s) (s1 : s ≤ 23) (hS : ∀ p, 0 ≤ p → p < q → 0 ≤ S p ∧ S p ≤ 23) : ∀ (d : Nat) (j : Int) (f : Nat), q - j ≤ d → 0 ≤ j → d < f →
    (zf_M_canBe_l0 q s n S fr nm to J f j = some (.inl ()) ∧ ∀ p, j ≤ p → p < q → S p ≠ s ∧ (yt_ln n fr to (nm p) (nm q) → zb (J s) (S p).toNat = true)) ∨
    (zf_M_canBe_l0 q s n S fr nm to J f j = some (.inr 0) ∧ ∃ p, j ≤ p ∧ p < q ∧ ¬ (S p ≠ s ∧ (yt_ln n fr to (nm p) (nm q) → zb (J s) (S p).toNat = true))) := by
  intro d
  induction d with
  | zero =>
    intro j f e j0 hf
    obtain ⟨f, rfl⟩ : ∃ q, f = q + 1 := ⟨f - 1, by omega⟩
    refine .inl ⟨?_, fun i i0 i1 => by omega⟩
    show zf_M_canBe_l0_b q s n S fr nm to J (zf_M_canBe_l0 q s n S fr nm to J f) j = _
    unfold zf_M_canBe_l0_b
    rw [if_neg (by omega)]
  | succ d ih =>
    intro j f e j0 hf
    obtain ⟨f, rfl⟩ : ∃ q, f = q + 1 := ⟨f - 1, by omega⟩
    show (zf_M_canBe_l0_b q s n S fr nm to J (zf_M_canBe_l0 q s n S fr nm to J f) j = _ ∧ _) ∨ (zf_M_canBe_l0_b q s n S fr nm to J (zf_M_canBe_l0 q s n S fr nm to J f) j = _ ∧ _)
    unfold zf_M_canBe_l0_b
    by_cases c : j < q
    · rw [if_pos c, zl_ci j0 (by omega), zi_w_id (x := j + 1) (by omega) (by omega)]
      by_cases a : S j = s
      · rw [if_pos a]
        exact .inr ⟨rfl, j, Int.le_refl _, c, fun w => w.1 a⟩
      · rw [if_neg a]
        rcases yw_cb_l (n := n) (S := S) (fr := fr) (nm := nm) (to := to) (J := J) n0 q1 s0 s1 j0 c (hS j j0 c).1 (hS j j0 c).2 12 0 zi_fu (by omega) (by decide) (by decide) with ⟨e1, b⟩ | ⟨e1, ⟨i, i0, i1, b⟩, b2⟩
        · rw [e1, zl_b]
          dsimp only [Sum.elim]
          have hj : S j ≠ s ∧ (yt_ln n fr to (nm j) (nm q) → zb (J s) (S j).toNat = true) := ⟨a, fun ⟨i, i0, i1, hi⟩ => b i i0 i1 hi⟩
          rcases ih (j + 1) f (by omega) (by omega) (by omega) with ⟨e2, h⟩ | ⟨e2, p, p0, p1, h⟩
          · refine .inl ⟨e2, fun p p0 p1 => ?_⟩
            by_cases w : p = j
            · subst w; exact hj
            · exact h p (by omega) p1
          · exact .inr ⟨e2, p, by omega, p1, h⟩
        · rw [e1, zl_b]
          dsimp only [Sum.elim]
          exact .inr ⟨rfl, j, Int.le_refl _, c, fun w => b2 (w.2 ⟨i, i0, i1, b⟩)⟩
    · rw [if_neg c]
      exact .inl ⟨rfl, fun i i0 i1 => by omega⟩
theorem yw_canBe (n0 : n ≤ 12) (q0 : 0 ≤ q) (q1 : q ≤ 7) (s0 : 0 ≤ s) (s1 : s ≤ 23) (hS : ∀ p, 0 ≤ p → p < q → 0 ≤ S p ∧ S p ≤ 23) :
    (zf_M_canBe q s n S fr nm to J = some 1 ∧ yw_P n S fr nm to J q s) ∨ (zf_M_canBe q s n S fr nm to J = some 0 ∧ ¬ yw_P n S fr nm to J q s) := by
  unfold zf_M_canBe
  rcases yw_cb_o (n := n) (S := S) (fr := fr) (nm := nm) (to := to) (J := J) n0 q0 q1 s0 s1 hS 8 0 zi_fu (by omega) (by decide) (by decide) with ⟨e1, b⟩ | ⟨e1, p, p0, p1, b⟩
  · rw [e1, zl_b]
    exact .inl ⟨rfl, b⟩
  · rw [e1, zl_b]
    exact .inr ⟨rfl, fun w => b (w p p0 p1)⟩
theorem yw_P_cg {S2 : Int → Int} (h : ∀ p, 0 ≤ p → p < q → S p = S2 p) : yw_P n S fr nm to J q s ↔ yw_P n S2 fr nm to J q s := by
  unfold yw_P
  constructor
  · intro w p p0 p1; rw [← h p p0 p1]; exact w p p0 p1
  · intro w p p0 p1; rw [h p p0 p1]; exact w p p0 p1
/-- the next star that fits -/
theorem yw_next {z : Int} {S0 : Int → Int} (n0 : n ≤ 12) (q0 : 0 ≤ q) (q1 : q ≤ 7) (hS : ∀ p, 0 ≤ p → p < q → S p = S0 p ∧ 0 ≤ S0 p ∧ S0 p ≤ 23) : ∀ (d : Nat) (j : Int) (f : Nat), 24 - j ≤ d → 0 ≤ j → j ≤ 24 → d < f →
    ∃ r, zf_M_ways_l1 q z n nm S fr to J f j = some r ∧ j ≤ r ∧ r ≤ 24 ∧ (r < 24 → yw_ok z n fr nm to J S0 q r = true) ∧ ∀ t, j ≤ t → t < r → yw_ok z n fr nm to J S0 q t = false := by
  intro d
  induction d with
  | zero =>
    intro j f e j0 j1 hf
    obtain ⟨f, rfl⟩ : ∃ q, f = q + 1 := ⟨f - 1, by omega⟩
    refine ⟨j, ?_, Int.le_refl _, j1, fun h => by omega, fun t t0 t1 => by omega⟩
    show zf_M_ways_l1_b q z n nm S fr to J (zf_M_ways_l1 q z n nm S fr to J f) j = _
    unfold zf_M_ways_l1_b
    rw [if_neg (by omega)]
  | succ d ih =>
    intro j f e j0 j1 hf
    obtain ⟨f, rfl⟩ : ∃ q, f = q + 1 := ⟨f - 1, by omega⟩
    by_cases c : j < 24
    · have nx : yw_ok z n fr nm to J S0 q j = false → ∃ r, zf_M_ways_l1 q z n nm S fr to J f (j + 1) = some r ∧ j ≤ r ∧ r ≤ 24 ∧ (r < 24 → yw_ok z n fr nm to J S0 q r = true) ∧ ∀ t, j ≤ t → t < r → yw_ok z n fr nm to J S0 q t = false := fun hn => by
        obtain ⟨r, e1, r0, r1, r2, r3⟩ := ih (j + 1) f (by omega) (by omega) (by omega) (by omega)
        refine ⟨r, e1, by omega, r1, r2, fun t t0 t1 => ?_⟩
        by_cases w : t = j
        · subst w; exact hn
        · exact r3 t (by omega) t1
      show ∃ r, zf_M_ways_l1_b q z n nm S fr to J (zf_M_ways_l1 q z n nm S fr to J f) j = some r ∧ _
      unfold zf_M_ways_l1_b
      rw [if_pos c, ze_has2 j0 (by omega), zl_b, zi_w_id (x := j + 1) (by omega) (by omega)]
      by_cases hz : zb z j.toNat = true
      · rw [if_pos hz, if_neg (show ¬ (1 : Int) = 0 by decide)]
        rcases yw_canBe (n := n) (S := S) (fr := fr) (nm := nm) (to := to) (J := J) (q := q) (s := j) n0 q0 q1 j0 (by omega) (fun p p0 p1 => by have := hS p p0 p1; omega) with ⟨e1, b⟩ | ⟨e1, b⟩
        · rw [e1, zl_b, if_neg (show ¬ (1 : Int) = 0 by decide)]
          refine ⟨j, rfl, Int.le_refl _, by omega, fun _ => ?_, fun t t0 t1 => by omega⟩
          unfold yw_ok
          rw [hz, Bool.true_and]
          exact @decide_eq_true _ (Classical.propDecidable _) ((yw_P_cg fun p p0 p1 => (hS p p0 p1).1).mp b)
        · rw [e1, zl_b, if_pos (show (0 : Int) = 0 from rfl)]
          refine nx ?_
          unfold yw_ok
          rw [hz, Bool.true_and]
          exact @decide_eq_false _ (Classical.propDecidable _) fun w => b ((yw_P_cg fun p p0 p1 => (hS p p0 p1).1).mpr w)
      · rw [if_neg hz, if_pos (show (0 : Int) = 0 from rfl)]
        refine nx ?_
        unfold yw_ok
        rw [Bool.eq_false_iff.mpr hz, Bool.false_and]
    · refine ⟨j, ?_, Int.le_refl _, j1, fun h => by omega, fun t t0 t1 => by omega⟩
      show zf_M_ways_l1_b q z n nm S fr to J (zf_M_ways_l1 q z n nm S fr to J f) j = _
      unfold zf_M_ways_l1_b
      rw [if_neg (by omega)]
end YWC
