/-! Reading a sum: a machine with a stack, and what the class's reader does against it. -/
def yp_pk (T : Int → Int) (len p : Int) : Int := if p < len then T p else -1
def yp_dg (c : Int) : Bool := decide (48 ≤ c ∧ c ≤ 57)
theorem yp_dg_t {c : Int} : yp_dg c = true ↔ 48 ≤ c ∧ c ≤ 57 := by unfold yp_dg; rw [decide_eq_true_eq]
/-- up to so many digits -/
def yp_nm (T : Int → Int) (len : Int) : Nat → Int → Int → Int × Int
  | 0, v, p => (v, p)
  | k + 1, v, p => if yp_dg (yp_pk T len p) = true then yp_nm T len k (10 * v + yp_pk T len p - 48) (p + 1) else (v, p)
abbrev zCD : Type := Int × (Int → Int) × (Int → Int)
def yp_em (k v : Int) (c : zCD) : zCD := (c.1 + 1, zv_up c.2.1 c.1 k, zv_up c.2.2 c.1 v)
def yp_ln (j : Int) (c : zCD) : zCD := (c.1, c.2.1, zv_up c.2.2 j c.1)
def yp_ss (c : Int) : Int := if c = 43 then 2 else if c = 45 then 3 else if c = 42 then 4 else if c = 47 then 5 else if c = 37 then 6 else -1
theorem yp_ss_in (c : Int) : yp_ss c = -1 ∨ (2 ≤ yp_ss c ∧ yp_ss c ≤ 6) := by unfold yp_ss; (repeat' split) <;> decide
def yp_lt (c : Int) : Int := if c = 104 then 0 else if c = 117 then 1 else if c = 105 then 2 else if c = 109 then 3 else if c = 114 then 4 else if c = 99 then 5 else if c = 107 then 6 else if c = 110 then 7 else if c = 115 then 8 else if c = 101 then 9 else if c = 120 then 10 else if c = 121 then 11 else if c = 100 then 12 else -1
theorem yp_lt_in (c : Int) : yp_lt c = -1 ∨ (0 ≤ yp_lt c ∧ yp_lt c < 13) := by 
  by_cases h : 98 ≤ c ∧ c ≤ 125
  · have hd : ∀ k : Nat, k < 28 → yp_lt ((k : Int) + 98) = -1 ∨ (0 ≤ yp_lt ((k : Int) + 98) ∧ yp_lt ((k : Int) + 98) < 13) := by decide
    have := hd (c - 98).toNat (by omega)
    rwa [show (((c - 98).toNat : Nat) : Int) + 98 = c by omega] at this
  · left
    unfold yp_lt
    rw [if_neg (by omega), if_neg (by omega), if_neg (by omega), if_neg (by omega), if_neg (by omega), if_neg (by omega), if_neg (by omega), if_neg (by omega), if_neg (by omega), if_neg (by omega), if_neg (by omega), if_neg (by omega), if_neg (by omega)]
/-- what waits is noted: times .. rest, or all -/
def yp_cl (all : Bool) : List Int → zCD → List Int × zCD
  | [], c => ([], c)
  | s :: w, c => if (4 ≤ s ∧ s ≤ 6) ∨ (all = true ∧ (s = 2 ∨ s = 3)) then yp_cl all w (yp_em (s + 3) 0 c) else (s :: w, c)
/-- reading: true: a factor is due; false: behind one -/
def yp_S (T : Int → Int) (len : Int) : Nat → Bool → List Int → Int → Int → zCD → Option (Int ⊕ (Int × zCD))
  | 0, _, _, _, _, _ => none
  | n + 1, true, w, o, p, c => if yp_pk T len p = 91 then (if o = 6 then some (.inl (-5000 - p)) else yp_S T len n true (14 :: w) (o + 1) (p + 1) c)
    else if yp_dg (yp_pk T len p) = true then (if yp_dg (yp_pk T len (yp_nm T len 5 0 p).2) = true then some (.inl (-2000 - (yp_nm T len 5 0 p).2)) else yp_S T len n false w o (yp_nm T len 5 0 p).2 (yp_em 0 (yp_nm T len 5 0 p).1 c))
    else if yp_lt (yp_pk T len p) = -1 then some (.inl (-1000 - p)) else yp_S T len n false w o (p + 1) (yp_em 1 (yp_lt (yp_pk T len p)) c)
  | n + 1, false, w, o, p, c => if yp_ss (yp_pk T len p) ≠ -1 then yp_S T len n true (yp_ss (yp_pk T len p) :: (yp_cl (decide (yp_ss (yp_pk T len p) < 4)) w c).1) o (p + 1) (yp_cl (decide (yp_ss (yp_pk T len p) < 4)) w c).2
    else if 14 ∈ w then (if yp_pk T len p = 93 then yp_S T len n false (yp_cl true w c).1.tail (o - 1) (p + 1) (yp_cl true w c).2 else some (.inl (-1000 - p)))
    else some (.inr (p, (yp_cl true w c).2))
section ZPS
variable {T : Int → Int} {len o p : Int} {c : zCD} {w : List Int} {n : Nat}
theorem yp_S_t : yp_S T len (n + 1) true w o p c = if yp_pk T len p = 91 then (if o = 6 then some (.inl (-5000 - p)) else yp_S T len n true (14 :: w) (o + 1) (p + 1) c)
    else if yp_dg (yp_pk T len p) = true then (if yp_dg (yp_pk T len (yp_nm T len 5 0 p).2) = true then some (.inl (-2000 - (yp_nm T len 5 0 p).2)) else yp_S T len n false w o (yp_nm T len 5 0 p).2 (yp_em 0 (yp_nm T len 5 0 p).1 c))
    else if yp_lt (yp_pk T len p) = -1 then some (.inl (-1000 - p)) else yp_S T len n false w o (p + 1) (yp_em 1 (yp_lt (yp_pk T len p)) c) := rfl
theorem yp_S_f : yp_S T len (n + 1) false w o p c = if yp_ss (yp_pk T len p) ≠ -1 then yp_S T len n true (yp_ss (yp_pk T len p) :: (yp_cl (decide (yp_ss (yp_pk T len p) < 4)) w c).1) o (p + 1) (yp_cl (decide (yp_ss (yp_pk T len p) < 4)) w c).2
    else if 14 ∈ w then (if yp_pk T len p = 93 then yp_S T len n false (yp_cl true w c).1.tail (o - 1) (p + 1) (yp_cl true w c).2 else some (.inl (-1000 - p)))
    else some (.inr (p, (yp_cl true w c).2)) := rfl
def yp_tm (w : List Int) : Prop := ∀ s w', w = s :: w' → s < 4 ∨ 6 < s
def yp_ta (w : List Int) : Prop := ∀ s w', w = s :: w' → s < 2 ∨ 6 < s
def yp_al (_ : List Int) : Prop := True
theorem yp_cl_c {all : Bool} {s : Int} : yp_cl all (s :: w) c = if (4 ≤ s ∧ s ≤ 6) ∨ (all = true ∧ (s = 2 ∨ s = 3)) then yp_cl all w (yp_em (s + 3) 0 c) else (s :: w, c) := rfl
theorem yp_cl_n (h : yp_tm w) : yp_cl false w c = (w, c) := by
  cases w with
  | nil => rfl
  | cons s w =>
    rw [yp_cl_c, if_neg]
    intro hh
    have := h s w rfl
    rcases hh with h1 | ⟨h1, _⟩
    · omega
    · cases h1
theorem yp_cl_a (h : yp_ta w) : yp_cl true w c = (w, c) := by
  cases w with
  | nil => rfl
  | cons s w =>
    rw [yp_cl_c, if_neg]
    intro hh
    have := h s w rfl
    rcases hh with h1 | ⟨_, h1⟩ <;> omega
theorem yp_S_mul {s : Int} (h : 4 ≤ s ∧ s ≤ 6) : yp_S T len n false (s :: w) o p c = yp_S T len n false w o p (yp_em (s + 3) 0 c) := by
  cases n with
  | zero => rfl
  | succ n =>
    have e : (14 ∈ s :: w) ↔ 14 ∈ w := by
      rw [List.mem_cons]
      exact ⟨fun q => q.elim (fun e => by omega) id, Or.inr⟩
    have q : ∀ all, yp_cl all (s :: w) c = yp_cl all w (yp_em (s + 3) 0 c) := fun all => by rw [yp_cl_c, if_pos (Or.inl h)]
    rw [yp_S_f, yp_S_f, q, q]
    by_cases hm : 14 ∈ w
    · rw [if_pos hm, if_pos (e.mpr hm)]
    · rw [if_neg hm, if_neg (fun k => hm (e.mp k))]
theorem yp_S_add {s : Int} (h : s = 2 ∨ s = 3) (hn : yp_ss (yp_pk T len p) < 4) : yp_S T len n false (s :: w) o p c = yp_S T len n false w o p (yp_em (s + 3) 0 c) := by
  cases n with
  | zero => rfl
  | succ n =>
    have e : (14 ∈ s :: w) ↔ 14 ∈ w := by
      rw [List.mem_cons]
      exact ⟨fun q => q.elim (fun e => by omega) id, Or.inr⟩
    have q : yp_cl true (s :: w) c = yp_cl true w (yp_em (s + 3) 0 c) := by rw [yp_cl_c, if_pos (Or.inr ⟨rfl, h⟩)]
    rw [yp_S_f, yp_S_f, decide_eq_true hn, q]
    by_cases hm : 14 ∈ w
    · rw [if_pos hm, if_pos (e.mpr hm)]
    · rw [if_neg hm, if_neg (fun k => hm (e.mp k))]
end ZPS
/-! The class's small readers. -/
section ZES
variable {T K V : Int → Int} {len p c k v : Int}
theorem ze_peek (h1 : 0 ≤ p) (h2 : len ≤ 220) : zf_LawReader_peek p len T = some (yp_pk T len p) := by
  unfold zf_LawReader_peek yp_pk
  rw [if_neg (by omega)]
  by_cases h : p < len
  · rw [if_pos h, if_pos h, zl_ci h1 (by omega)]
  · rw [if_neg h, if_neg h]
theorem ze_isDigit : zf_LawReader_isDigit c = some (if yp_dg c = true then 1 else 0) := by
  unfold zf_LawReader_isDigit
  by_cases a : c < 48
  · rw [if_pos a, if_neg (fun h => by have := yp_dg_t.mp h; omega)]
  · rw [if_neg a]
    by_cases b : 57 < c
    · rw [if_pos b, if_neg (fun h => by have := yp_dg_t.mp h; omega)]
    · rw [if_neg b, if_pos (yp_dg_t.mpr (by omega))]
theorem ze_fail (h1 : 0 ≤ p) (h2 : p ≤ 220) (k1 : 0 ≤ k) (k2 : k ≤ 6) : zf_LawReader_fail k 0 p = some (-1000 * k - p) := by
  unfold zf_LawReader_fail zf_X_faultAt
  rw [if_pos rfl, zl_b, zi_w_id (x := -1000 * k) (by omega) (by omega), zi_w_id (by omega) (by omega)]
theorem ze_skip (h1 : 0 ≤ p) (h2 : p ≤ 220) (h3 : len ≤ 220) : zf_LawReader_skip c 0 p len T = some (if yp_pk T len p = c then (0, p + 1) else (-1000 - p, p)) := by
  unfold zf_LawReader_skip
  rw [if_pos rfl, ze_peek h1 h3, zl_b]
  by_cases h : yp_pk T len p = c
  · rw [if_pos h, if_pos h, zi_w_id (by omega) (by omega)]
  · rw [if_neg h, if_neg h, ze_fail h1 h2 (by decide) (by decide), zl_b]
    rfl
theorem ze_skipf {f : Int} (hf : f ≠ 0) : zf_LawReader_skip c f p len T = some (f, p) := by
  unfold zf_LawReader_skip
  rw [if_neg hf]
theorem ze_addStep (h1 : 0 ≤ c) (h2 : c < 200) : zf_Law_addStep k v c K V = some (c, c + 1, zv_up K c k, zv_up V c v) := by
  unfold zf_Law_addStep
  rw [if_pos h2, zl_ci h1 (by omega), zi_w_id (x := c + 1) (by omega) (by omega), zi_w_id (by omega) (by omega), show c + 1 - 1 = c by omega]
theorem ze_addStep_a (h1 : 0 ≤ c) (h2 : c ≤ 200) : ∃ a c' K' V', zf_Law_addStep k v c K V = some (a, c', K', V') ∧ 0 ≤ c' ∧ c' ≤ 200 ∧ -1 ≤ a ∧ a < 200 := by
  by_cases h : c < 200
  · exact ⟨_, _, _, _, ze_addStep h1 h, by omega, by omega, by omega, by omega⟩
  · refine ⟨c - 1, c, K, V, ?_, h1, h2, by omega, by omega⟩
    unfold zf_Law_addStep
    rw [if_neg h, zi_w_id (by omega) (by omega)]
def yp_bd : Nat → Int
  | 0 => 99999
  | 1 => 9999
  | 2 => 999
  | 3 => 99
  | 4 => 9
  | _ => 0
theorem yp_bd_s : ∀ k, k < 5 → 10 * yp_bd (k + 1) + 9 ≤ yp_bd k ∧ yp_bd k ≤ 99999 := by decide
theorem yp_nm_in : ∀ (k : Nat) (v p : Int), k ≤ 5 → 0 ≤ v → v ≤ yp_bd k → p ≤ len → (0 ≤ (yp_nm T len k v p).1 ∧ (yp_nm T len k v p).1 ≤ 99999) ∧ p ≤ (yp_nm T len k v p).2 ∧ (yp_nm T len k v p).2 ≤ p + k ∧ (yp_nm T len k v p).2 ≤ len := by
  intro k
  induction k with
  | zero => intro v p _ v1 v2 hp; exact ⟨⟨v1, v2⟩, Int.le_refl _, by show p ≤ p + ((0 : Nat) : Int); omega, hp⟩
  | succ k ih =>
    intro v p hk v1 v2 hp
    obtain ⟨b1, b2⟩ := yp_bd_s k (by omega)
    unfold yp_nm
    by_cases h : yp_dg (yp_pk T len p) = true
    · rw [if_pos h]
      have hd := yp_dg_t.mp h
      have hp2 : p < len := by
        apply Int.not_le.mp
        intro hh
        unfold yp_pk at hd
        rw [if_neg (by omega)] at hd
        omega
      obtain ⟨a1, a2, a3, a4⟩ := ih (10 * v + yp_pk T len p - 48) (p + 1) (by omega) (by omega) (by omega) (by omega)
      exact ⟨a1, by omega, by omega, a4⟩
    · rw [if_neg h]
      exact ⟨⟨v1, by show v ≤ 99999; omega⟩, Int.le_refl _, by show p ≤ p + ((k + 1 : Nat) : Int); omega, hp⟩
theorem yp_nm_lt {v : Int} {k : Nat} (h : yp_dg (yp_pk T len p) = true) (hk : k ≤ 4) (v1 : 0 ≤ v) (v2 : v ≤ yp_bd (k + 1)) : p < (yp_nm T len (k + 1) v p).2 := by
  unfold yp_nm
  rw [if_pos h]
  have hd := yp_dg_t.mp h
  obtain ⟨b1, b2⟩ := yp_bd_s k (by omega)
  have hp2 : p < len := by
    apply Int.not_le.mp
    intro hh
    unfold yp_pk at hd
    rw [if_neg (by omega)] at hd
    omega
  have := (yp_nm_in (T := T) (len := len) k (10 * v + yp_pk T len p - 48) (p + 1) (by omega) (by omega) (by omega) (by omega)).2.1
  omega
theorem ze_rn_l0 (hl : len ≤ 220) : ∀ (k : Nat) (v d p : Int) (n : Nat), d + k = 5 → k ≤ 5 → k < n → 0 ≤ v → v ≤ yp_bd k → 0 ≤ p → p ≤ len → zf_LawReader_readNumber_l0 len T n v d p = some (yp_nm T len k v p) := by
  intro k
  induction k with
  | zero =>
    intro v d p n e _ hn _ _ _ _
    obtain ⟨n, rfl⟩ : ∃ q, n = q + 1 := ⟨n - 1, by omega⟩
    show zf_LawReader_readNumber_l0_b len T (zf_LawReader_readNumber_l0 len T n) v d p = _
    unfold zf_LawReader_readNumber_l0_b
    rw [if_neg (by omega)]
    rfl
  | succ k ih =>
    intro v d p n e hk hn v1 v2 p1 p2
    obtain ⟨n, rfl⟩ : ∃ q, n = q + 1 := ⟨n - 1, by omega⟩
    show zf_LawReader_readNumber_l0_b len T (zf_LawReader_readNumber_l0 len T n) v d p = _
    unfold zf_LawReader_readNumber_l0_b yp_nm
    obtain ⟨b1, b2⟩ := yp_bd_s k (by omega)
    rw [if_pos (by omega), ze_peek p1 hl, zl_b, ze_isDigit, zl_b]
    by_cases h : yp_dg (yp_pk T len p) = true
    · rw [if_pos h, if_pos h, if_neg (by decide), zl_b]
      have hd := yp_dg_t.mp h
      have hp2 : p < len := by
        apply Int.not_le.mp
        intro hh
        unfold yp_pk at hd
        rw [if_neg (by omega)] at hd
        omega
      rw [zi_w_id (x := 10 * v) (by omega) (by omega), zi_w_id (x := 10 * v + yp_pk T len p) (by omega) (by omega), zi_w_id (x := 10 * v + yp_pk T len p - 48) (by omega) (by omega), zi_w_id (x := d + 1) (by omega) (by omega), zi_w_id (x := p + 1) (by omega) (by omega)]
      exact ih _ _ _ _ (by omega) (by omega) (by omega) (by omega) (by omega) (by omega) (by omega)
    · rw [if_neg h, if_neg h, if_pos rfl]
theorem ze_readNumber (hl : len ≤ 200) (p1 : 0 ≤ p) (p2 : p ≤ len) (c1 : 0 ≤ c) (c2 : c < 200) : zf_LawReader_readNumber p len c 0 T K V = some ((yp_nm T len 5 0 p).2, c + 1, (if yp_dg (yp_pk T len (yp_nm T len 5 0 p).2) = true then -2000 - (yp_nm T len 5 0 p).2 else 0), zv_up K c 0, zv_up V c (yp_nm T len 5 0 p).1) := by
  obtain ⟨a1, a2, a3, a4⟩ := yp_nm_in (T := T) (len := len) 5 0 p (by decide) (by decide) (by decide) p2
  unfold zf_LawReader_readNumber
  rw [ze_rn_l0 (T := T) (by omega) 5 0 0 p zi_fu rfl (by decide) (by decide) (by decide) (by decide) p1 p2, zl_b, ze_peek (by omega) (by omega), zl_b, ze_isDigit, zl_b]
  by_cases h : yp_dg (yp_pk T len (yp_nm T len 5 0 p).2) = true
  · rw [if_pos h, if_pos h, if_neg (by decide), ze_fail (by omega) (by omega) (by decide) (by decide), zl_b, ze_addStep c1 c2, zl_b]
    rfl
  · rw [if_neg h, if_neg h, if_pos rfl, ze_addStep c1 c2, zl_b]
theorem ze_letter (h1 : 0 ≤ c) (h2 : c ≤ 255) : zi_letter (zi_ch c) = yp_lt c := by
  have h : ∀ k : Nat, k < 256 → zi_letter (zi_ch (k : Int)) = yp_lt (k : Int) := by decide +kernel
  have := h c.toNat (by omega)
  rwa [show ((c.toNat : Nat) : Int) = c by omega] at this
end ZES
