/-! The machines that run a law, step by step, on both sides: what a run of steps leaves. -/
theorem zl_ci {α : Type} {a : Int} {n : Nat} {x : Option α} (h1 : 0 ≤ a) (h2 : a < n) : cond (zi_ix a n) x none = x := zl_c (zi_ix_of h1 h2)
theorem zl_cn {α : Type} {a : Int} {x : Option α} (h : a ≠ 0) : cond (zi_ne a) x none = x := zl_c (zi_ne_of h)
/-- what two numbers come to, by the class's kinds -/
def zd_bin (k x y : Int) : Int := if k = 5 then zi_w (x + y) else if k = 6 then zi_w (x - y) else if k = 7 then zi_w (x * y) else if k = 8 then zi_div x y else if k = 9 then zi_rem x y else if k = 10 then (if x < y then 1 else 0) else if k = 11 then (if y < x then 1 else 0) else (if x = y then 1 else 0)
section ZXRUN
variable {en f0 a t : Int} {K V lt S : Int → Int} {n : Nat}
theorem zx_end (h : en ≤ a) : zf_Law_run_l0 en f0 K V lt (n + 1) t a S = some (.inl (t, S)) := by
  show zf_Law_run_l0_b en f0 K V lt (zf_Law_run_l0 en f0 K V lt n) t a S = _
  unfold zf_Law_run_l0_b
  rw [if_neg (by omega)]
theorem zx_num (ha : 0 ≤ a) (hb : a < en) (he : en ≤ 200) (hK : K a = 0) (t1 : -1 ≤ t) (t2 : t + 1 < 40) : zf_Law_run_l0 en f0 K V lt (n + 1) t a S = zf_Law_run_l0 en f0 K V lt n (t + 1) (a + 1) (zv_up S (t + 1) (V a)) := by
  show zf_Law_run_l0_b en f0 K V lt (zf_Law_run_l0 en f0 K V lt n) t a S = _
  unfold zf_Law_run_l0_b
  rw [if_pos hb, zl_ci ha (by omega), if_neg (by omega), zi_w_id (x := t + 1) (by omega) (by omega), zi_w_id (x := a + 1) (by omega) (by omega), if_pos t2, if_pos hK, zl_ci (by omega) (by omega)]
theorem zx_let (ha : 0 ≤ a) (hb : a < en) (he : en ≤ 200) (hK : K a = 1) (v1 : 0 ≤ V a) (v2 : V a < 13) (t1 : -1 ≤ t) (t2 : t + 1 < 40) : zf_Law_run_l0 en f0 K V lt (n + 1) t a S = zf_Law_run_l0 en f0 K V lt n (t + 1) (a + 1) (zv_up S (t + 1) (lt (V a))) := by
  show zf_Law_run_l0_b en f0 K V lt (zf_Law_run_l0 en f0 K V lt n) t a S = _
  unfold zf_Law_run_l0_b
  rw [if_pos hb, zl_ci ha (by omega), if_neg (by omega), zi_w_id (x := t + 1) (by omega) (by omega), zi_w_id (x := a + 1) (by omega) (by omega), if_pos t2, if_neg (by omega), zl_ci v1 (by omega), zl_ci (by omega) (by omega)]
theorem zx_not (ha : 0 ≤ a) (hb : a < en) (he : en ≤ 200) (hK : K a = 2) (t1 : 0 ≤ t) (t2 : t < 40) : zf_Law_run_l0 en f0 K V lt (n + 1) t a S = zf_Law_run_l0 en f0 K V lt n t (a + 1) (zv_up S t (if S t = 0 then 1 else 0)) := by
  show zf_Law_run_l0_b en f0 K V lt (zf_Law_run_l0 en f0 K V lt n) t a S = _
  unfold zf_Law_run_l0_b
  rw [if_pos hb, zl_ci ha (by omega), if_pos (by omega), if_pos (by omega), if_neg (by omega), zl_ci t1 (by omega), if_pos hK, zi_w_id (x := a + 1) (by omega) (by omega)]
  by_cases h : S t = 0
  · rw [if_pos h, if_pos h]
  · rw [if_neg h, if_neg h]
theorem zx_jmp (ha : 0 ≤ a) (hb : a < en) (he : en ≤ 200) (hK : K a = 3 ∧ S t ≠ 0 ∨ K a = 4 ∧ S t = 0) (t1 : 0 ≤ t) (t2 : t < 40) (v1 : a < V a) (v2 : V a ≤ 200) : zf_Law_run_l0 en f0 K V lt (n + 1) t a S = zf_Law_run_l0 en f0 K V lt n t (V a) S := by
  show zf_Law_run_l0_b en f0 K V lt (zf_Law_run_l0 en f0 K V lt n) t a S = _
  unfold zf_Law_run_l0_b
  rw [if_pos hb, zl_ci ha (by omega), if_pos (by omega), if_pos (by omega), if_neg (by omega), zl_ci t1 (by omega), if_neg (by omega), zi_w_id (x := V a - 1) (by omega) (by omega), ze_Math_max, zl_b]
  have e : zi_w ((if a < V a - 1 then V a - 1 else a) + 1) = V a := by
    rw [zi_w_id (by split <;> omega) (by split <;> omega)]
    split <;> omega
  rw [e]
  rcases hK with ⟨h1, h2⟩ | ⟨h1, h2⟩
  · rw [if_neg h2, if_pos h1]
  · rw [if_pos h2, if_neg (by omega)]
theorem zx_thr (ha : 0 ≤ a) (hb : a < en) (he : en ≤ 200) (hK : K a = 3 ∧ S t = 0 ∨ K a = 4 ∧ S t ≠ 0) (t1 : 0 ≤ t) (t2 : t < 40) : zf_Law_run_l0 en f0 K V lt (n + 1) t a S = zf_Law_run_l0 en f0 K V lt n (t - 1) (a + 1) S := by
  show zf_Law_run_l0_b en f0 K V lt (zf_Law_run_l0 en f0 K V lt n) t a S = _
  unfold zf_Law_run_l0_b
  rw [if_pos hb, zl_ci ha (by omega), if_pos (by omega), if_pos (by omega), if_neg (by omega), zl_ci t1 (by omega), if_neg (by omega), zi_w_id (x := t + -1) (by omega) (by omega), zi_w_id (x := a + 1) (by omega) (by omega), show t + -1 = t - 1 by omega]
  rcases hK with ⟨h1, h2⟩ | ⟨h1, h2⟩
  · rw [if_pos h2, if_pos h1]
  · rw [if_neg h2, if_neg (by omega)]
theorem zx_bad (ha : 0 ≤ a) (hb : a < en) (he : en ≤ 200) (hK : K a = 8 ∨ K a = 9) (hS : S t = 0) (t1 : 1 ≤ t) (t2 : t < 40) : zf_Law_run_l0 en f0 K V lt (n + 1) t a S = some (.inr (0, f0, S)) := by
  show zf_Law_run_l0_b en f0 K V lt (zf_Law_run_l0 en f0 K V lt n) t a S = _
  unfold zf_Law_run_l0_b
  rw [if_pos hb, zl_ci ha (by omega), if_pos (by omega), if_neg (by omega), if_neg (by omega), zl_ci (a := t) (by omega) (by omega), if_pos hS]
  rcases hK with h | h
  · rw [if_pos h]
  · rw [if_neg (by omega), if_pos h]
theorem zx_bin (ha : 0 ≤ a) (hb : a < en) (he : en ≤ 200) (k1 : 5 ≤ K a) (k2 : K a ≤ 12) (hS : S t = 0 → K a ≠ 8 ∧ K a ≠ 9) (t1 : 1 ≤ t) (t2 : t < 40) : zf_Law_run_l0 en f0 K V lt (n + 1) t a S = zf_Law_run_l0 en f0 K V lt n (t - 1) (a + 1) (zv_up S (t - 1) (zd_bin (K a) (S (t - 1)) (S t))) := by
  show zf_Law_run_l0_b en f0 K V lt (zf_Law_run_l0 en f0 K V lt n) t a S = _
  unfold zf_Law_run_l0_b zd_bin
  rw [if_pos hb, zl_ci ha (by omega), if_pos (by omega), if_neg (by omega), if_neg (by omega), zl_ci (a := t) (by omega) (by omega), zi_w_id (x := t + -1) (by omega) (by omega), zi_w_id (x := a + 1) (by omega) (by omega), show t + -1 = t - 1 by omega, zl_ci (a := t - 1) (by omega) (by omega), zl_ci (a := t - 1) (by omega) (by omega)]
  have hc : K a = 5 ∨ K a = 6 ∨ K a = 7 ∨ K a = 8 ∨ K a = 9 ∨ K a = 10 ∨ K a = 11 ∨ K a = 12 := by omega
  by_cases h0 : S t = 0
  · obtain ⟨n8, n9⟩ := hS h0
    rw [if_pos h0, if_neg n8, if_neg n9]
    rcases hc with h | h | h | h | h | h | h | h
    · rw [if_pos h, if_pos h]
    · rw [if_neg (by omega), if_pos h, if_neg (by omega), if_pos h]
    · rw [if_neg (by omega), if_neg (by omega), if_pos h, if_neg (by omega), if_neg (by omega), if_pos h]
    · exact absurd h n8
    · exact absurd h n9
    · rw [if_neg (show ¬ K a = 5 by omega), if_neg (show ¬ K a = 6 by omega), if_neg (show ¬ K a = 7 by omega), if_pos h, if_neg (show ¬ K a = 5 by omega), if_neg (show ¬ K a = 6 by omega), if_neg (show ¬ K a = 7 by omega), if_neg n8, if_neg n9, if_pos h]
      split <;> rfl
    · rw [if_neg (show ¬ K a = 5 by omega), if_neg (show ¬ K a = 6 by omega), if_neg (show ¬ K a = 7 by omega), if_neg (show ¬ K a = 10 by omega), if_pos h, if_neg (show ¬ K a = 5 by omega), if_neg (show ¬ K a = 6 by omega), if_neg (show ¬ K a = 7 by omega), if_neg n8, if_neg n9, if_neg (show ¬ K a = 10 by omega), if_pos h]
      split <;> rfl
    · rw [if_neg (show ¬ K a = 5 by omega), if_neg (show ¬ K a = 6 by omega), if_neg (show ¬ K a = 7 by omega), if_neg (show ¬ K a = 10 by omega), if_neg (show ¬ K a = 11 by omega), if_neg (show ¬ K a = 5 by omega), if_neg (show ¬ K a = 6 by omega), if_neg (show ¬ K a = 7 by omega), if_neg n8, if_neg n9, if_neg (show ¬ K a = 10 by omega), if_neg (show ¬ K a = 11 by omega)]
      split <;> rfl
  · rw [if_neg h0, zl_cn h0, zl_cn h0]
    (repeat' split) <;> first | rfl | (exfalso; omega)
end ZXRUN
/-- the reference's kinds -/
def zd_op (k : Int) : Int := if k = 0 then 0 else if k = 1 then 1 else if k = 2 then 10 else if k = 3 then 12 else if k = 4 then 11 else k - 3
theorem zd_cd {k v c : Int} (e : c = 1048576 * zd_op k + v) (k1 : 0 ≤ k) (k2 : k ≤ 12) (v1 : 0 ≤ v) (v2 : v < 1048576) : zi_div c 1048576 = zd_op k ∧ zi_rem c 1048576 = v := by
  have o1 : 0 ≤ zd_op k ∧ zd_op k ≤ 12 := by unfold zd_op; (repeat' split) <;> omega
  rw [zi_div_eq (by omega) (by omega) (by decide) (by decide), zi_rem_eq (by omega) (by omega) (by decide) (by decide)]
  constructor <;> omega
theorem zd_reckon {k x y : Int} (k1 : 5 ≤ k) (k2 : k ≤ 12) (h : y = 0 → k ≠ 8 ∧ k ≠ 9) : zf_M_reckon (k - 3) x y = some (zd_bin k x y) := by
  have hc : k = 5 ∨ k = 6 ∨ k = 7 ∨ k = 8 ∨ k = 9 ∨ k = 10 ∨ k = 11 ∨ k = 12 := by omega
  unfold zf_M_reckon zd_bin
  rcases hc with h | h | h | h | h | h | h | h <;> subst h
  · rfl
  · rfl
  · rfl
  · rw [zl_cn (fun h0 => (h h0).1 rfl)]; rfl
  · rw [zl_cn (fun h0 => (h h0).2 rfl), zl_cn (fun h0 => (h h0).2 rfl)]; rfl
  · show (if x < y then some 1 else some 0) = some (if x < y then 1 else 0)
    split <;> rfl
  · show (if y < x then some 1 else some 0) = some (if y < x then 1 else 0)
    split <;> rfl
  · show (if x = y then some 1 else some 0) = some (if x = y then 1 else 0)
    split <;> rfl
section ZMRUN
variable {en a t k v : Int} {C lt S : Int → Int} {n : Nat}
theorem zm_end (h : en ≤ a) : zf_M_comesTo_l0 en 0 C lt (n + 1) t a S = some (.inl S) := by
  show zf_M_comesTo_l0_b en 0 C lt (zf_M_comesTo_l0 en 0 C lt n) t a S = _
  unfold zf_M_comesTo_l0_b
  rw [if_neg (by omega)]
theorem zm_num (ha : 0 ≤ a) (hb : a < en) (he : en ≤ 200) (hC : C a = 1048576 * zd_op 0 + v) (v1 : 0 ≤ v) (v2 : v < 1048576) (t1 : 0 ≤ t) (t2 : t < 40) : zf_M_comesTo_l0 en 0 C lt (n + 1) t a S = zf_M_comesTo_l0 en 0 C lt n (t + 1) (a + 1) (zv_up S t v) := by
  show zf_M_comesTo_l0_b en 0 C lt (zf_M_comesTo_l0 en 0 C lt n) t a S = _
  unfold zf_M_comesTo_l0_b
  obtain ⟨e1, e2⟩ := zd_cd hC (by decide) (by decide) v1 v2
  rw [if_pos hb, zl_ci ha (by omega), e1, e2, if_pos (by decide), zl_ci t1 (by omega), zi_w_id (x := t + 1) (by omega) (by omega), zi_w_id (x := a + 1) (by omega) (by omega)]
theorem zm_let (ha : 0 ≤ a) (hb : a < en) (he : en ≤ 200) (hC : C a = 1048576 * zd_op 1 + v) (v1 : 0 ≤ v) (v2 : v < 13) (t1 : 0 ≤ t) (t2 : t < 40) : zf_M_comesTo_l0 en 0 C lt (n + 1) t a S = zf_M_comesTo_l0 en 0 C lt n (t + 1) (a + 1) (zv_up S t (lt v)) := by
  show zf_M_comesTo_l0_b en 0 C lt (zf_M_comesTo_l0 en 0 C lt n) t a S = _
  unfold zf_M_comesTo_l0_b
  obtain ⟨e1, e2⟩ := zd_cd hC (by decide) (by decide) v1 (by omega)
  rw [if_pos hb, zl_ci ha (by omega), e1, e2, if_neg (by decide), if_pos (by decide), zl_ci v1 (by omega), zl_ci t1 (by omega), zi_w_id (x := t + 1) (by omega) (by omega), zi_w_id (x := a + 1) (by omega) (by omega)]
theorem zm_not (ha : 0 ≤ a) (hb : a < en) (he : en ≤ 200) (hC : C a = 1048576 * zd_op 2 + v) (v1 : 0 ≤ v) (v2 : v < 1048576) (hS : S (t - 1) = 0 ∨ S (t - 1) = 1) (t1 : 1 ≤ t) (t2 : t ≤ 40) : zf_M_comesTo_l0 en 0 C lt (n + 1) t a S = zf_M_comesTo_l0 en 0 C lt n t (a + 1) (zv_up S (t - 1) (if S (t - 1) = 0 then 1 else 0)) := by
  show zf_M_comesTo_l0_b en 0 C lt (zf_M_comesTo_l0 en 0 C lt n) t a S = _
  unfold zf_M_comesTo_l0_b
  obtain ⟨e1, e2⟩ := zd_cd hC (by decide) (by decide) v1 v2
  rw [if_pos hb, zl_ci ha (by omega), e1, if_neg (by decide), if_neg (by decide), if_pos (by decide), zi_w_id (x := t - 1) (by omega) (by omega), zl_ci (a := t - 1) (by omega) (by omega), zi_w_id (x := a + 1) (by omega) (by omega)]
  rcases hS with h | h <;> rw [h] <;> rfl
theorem zm_jmp (ha : 0 ≤ a) (hb : a < en) (he : en ≤ 200) (hC : C a = 1048576 * zd_op k + v) (hK : k = 3 ∧ S (t - 1) = 1 ∨ k = 4 ∧ S (t - 1) = 0) (v1 : 0 ≤ v) (v2 : v < 1048576) (t1 : 1 ≤ t) (t2 : t ≤ 40) : zf_M_comesTo_l0 en 0 C lt (n + 1) t a S = zf_M_comesTo_l0 en 0 C lt n t v S := by
  show zf_M_comesTo_l0_b en 0 C lt (zf_M_comesTo_l0 en 0 C lt n) t a S = _
  unfold zf_M_comesTo_l0_b
  obtain ⟨e1, e2⟩ := zd_cd hC (by omega) (by omega) v1 v2
  rw [if_pos hb, zl_ci ha (by omega), e1, e2, zi_w_id (x := t - 1) (by omega) (by omega), zi_w_id (x := 0 + v) (by omega) (by omega), Int.zero_add, zl_ci (a := t - 1) (by omega) (by omega), zl_ci (a := t - 1) (by omega) (by omega)]
  rcases hK with ⟨rfl, h⟩ | ⟨rfl, h⟩
  · rw [if_neg (by decide), if_neg (by decide), if_neg (by decide), if_neg (by decide), if_pos (by decide), zl_ci (a := t - 1) (by omega) (by omega), if_pos h]
  · rw [if_neg (by decide), if_neg (by decide), if_neg (by decide), if_pos (by decide), if_pos h]
theorem zm_thr (ha : 0 ≤ a) (hb : a < en) (he : en ≤ 200) (hC : C a = 1048576 * zd_op k + v) (hK : k = 3 ∧ S (t - 1) = 0 ∨ k = 4 ∧ S (t - 1) = 1) (v1 : 0 ≤ v) (v2 : v < 1048576) (t1 : 1 ≤ t) (t2 : t ≤ 40) : zf_M_comesTo_l0 en 0 C lt (n + 1) t a S = zf_M_comesTo_l0 en 0 C lt n (t - 1) (a + 1) S := by
  show zf_M_comesTo_l0_b en 0 C lt (zf_M_comesTo_l0 en 0 C lt n) t a S = _
  unfold zf_M_comesTo_l0_b
  obtain ⟨e1, e2⟩ := zd_cd hC (by omega) (by omega) v1 v2
  rw [if_pos hb, zl_ci ha (by omega), e1, zi_w_id (x := t - 1) (by omega) (by omega), zi_w_id (x := a + 1) (by omega) (by omega), zl_ci (a := t - 1) (by omega) (by omega), zl_ci (a := t - 1) (by omega) (by omega)]
  rcases hK with ⟨rfl, h⟩ | ⟨rfl, h⟩
  · rw [if_neg (by decide), if_neg (by decide), if_neg (by decide), if_neg (by decide), if_pos (by decide), zl_ci (a := t - 1) (by omega) (by omega), if_neg (by omega)]
  · rw [if_neg (by decide), if_neg (by decide), if_neg (by decide), if_pos (by decide), if_neg (by omega)]
theorem zm_bad (ha : 0 ≤ a) (hb : a < en) (he : en ≤ 200) (hC : C a = 1048576 * zd_op k + v) (hK : k = 8 ∨ k = 9) (hS : S (t - 1) = 0) (v1 : 0 ≤ v) (v2 : v < 1048576) (t1 : 2 ≤ t) (t2 : t ≤ 40) : zf_M_comesTo_l0 en 0 C lt (n + 1) t a S = some (.inr (0, S)) := by
  show zf_M_comesTo_l0_b en 0 C lt (zf_M_comesTo_l0 en 0 C lt n) t a S = _
  unfold zf_M_comesTo_l0_b
  obtain ⟨e1, e2⟩ := zd_cd hC (by omega) (by omega) v1 v2
  rw [if_pos hb, zl_ci ha (by omega), e1, zi_w_id (x := t - 1) (by omega) (by omega)]
  rcases hK with rfl | rfl
  · rw [if_neg (by decide), if_neg (by decide), if_neg (by decide), if_neg (by decide), if_neg (by decide), if_pos (by decide), zl_ci (a := t - 1) (by omega) (by omega), if_pos hS]
  · rw [if_neg (by decide), if_neg (by decide), if_neg (by decide), if_neg (by decide), if_neg (by decide), if_neg (by decide), if_pos (by decide), zl_ci (a := t - 1) (by omega) (by omega), if_pos hS]
theorem zm_bin (ha : 0 ≤ a) (hb : a < en) (he : en ≤ 200) (hC : C a = 1048576 * zd_op k + v) (k1 : 5 ≤ k) (k2 : k ≤ 12) (hS : S (t - 1) = 0 → k ≠ 8 ∧ k ≠ 9) (v1 : 0 ≤ v) (v2 : v < 1048576) (t1 : 2 ≤ t) (t2 : t ≤ 40) : zf_M_comesTo_l0 en 0 C lt (n + 1) t a S = zf_M_comesTo_l0 en 0 C lt n (t - 1) (a + 1) (zv_up S (t - 2) (zd_bin k (S (t - 2)) (S (t - 1)))) := by
  show zf_M_comesTo_l0_b en 0 C lt (zf_M_comesTo_l0 en 0 C lt n) t a S = _
  unfold zf_M_comesTo_l0_b
  obtain ⟨e1, e2⟩ := zd_cd hC (by omega) (by omega) v1 v2
  have eo : zd_op k = k - 3 := by unfold zd_op; rw [if_neg (by omega), if_neg (by omega), if_neg (by omega), if_neg (by omega), if_neg (by omega)]
  rw [if_pos hb, zl_ci ha (by omega), e1, zi_w_id (x := t - 1) (by omega) (by omega), zi_w_id (x := t - 1 - 1) (by omega) (by omega), zi_w_id (x := a + 1) (by omega) (by omega), show t - 1 - 1 = t - 2 by omega, eo, zd_reckon k1 k2 hS, zl_b]
  rw [if_neg (by omega), if_neg (by omega), if_neg (by omega), if_neg (by omega), if_neg (by omega)]
  by_cases h8 : k - 3 = 5
  · rw [if_pos h8, zl_ci (a := t - 1) (by omega) (by omega), if_neg (fun h => (hS h).1 (by omega)), zl_ci (a := t - 2) (by omega) (by omega)]
  · rw [if_neg h8]
    by_cases h9 : k - 3 = 6
    · rw [if_pos h9, zl_ci (a := t - 1) (by omega) (by omega), if_neg (fun h => (hS h).2 (by omega)), zl_ci (a := t - 2) (by omega) (by omega)]
    · rw [if_neg h9, zl_ci (a := t - 2) (by omega) (by omega), zl_ci (a := t - 1) (by omega) (by omega)]
end ZMRUN
