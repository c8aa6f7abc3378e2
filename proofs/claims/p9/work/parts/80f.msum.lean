/-! The reference's reader of sums goes as the machine goes. -/
def yk_T (T M : Int → Int) : Prop := ∀ j, 0 ≤ j → j < 220 → zi_and (M j) 255 = T j ∧ 0 ≤ T j ∧ T j ≤ 255
def yk_c (c : zCD) (m : Int) (D : Int → Int) : Prop := (m = c.1 ∧ 0 ≤ c.1) ∧ ∀ j, 0 ≤ j → j < c.1 → D j = 1048576 * zd_op (c.2.1 j) + c.2.2 j ∧ (0 ≤ c.2.1 j ∧ c.2.1 j ≤ 12) ∧ 0 ≤ c.2.2 j ∧ c.2.2 j < 1048576
section ZKE
variable {T M W D : Int → Int} {len p c x y m o k f : Int}
theorem ze_here (hT : yk_T T M) (h1 : 0 ≤ p) (h2 : len ≤ 220) : zf_M_here p len M = some (yp_pk T len p) := by
  unfold zf_M_here yp_pk
  by_cases h : p < len
  · rw [if_pos h, if_pos h, zl_ci h1 (by omega), (hT p h1 (by omega)).1]
  · rw [if_neg h, if_neg h]
theorem ze_wrong (h1 : 0 ≤ p) (h2 : p ≤ 220) (k1 : 0 ≤ x) (k2 : x ≤ 6) : zf_M_wrongAt x p f = some (0, -1000 * x - p) := by
  unfold zf_M_wrongAt
  rw [zi_w_id (x := -1000 * x) (by omega) (by omega), zi_w_id (by omega) (by omega)]
theorem ze_Mdigit (hT : yk_T T M) (h1 : 0 ≤ p) (h2 : len ≤ 220) : zf_M_isDigit p len M = some (if yp_dg (yp_pk T len p) = true then 1 else 0) := by
  unfold zf_M_isDigit
  rw [ze_here hT h1 h2, zl_b, zl_b]
  by_cases a : yp_pk T len p < 48
  · rw [if_pos a, if_neg (fun h => by have := yp_dg_t.mp h; omega)]
  · rw [if_neg a]
    by_cases b : 57 < yp_pk T len p
    · rw [if_pos b, if_neg (fun h => by have := yp_dg_t.mp h; omega)]
    · rw [if_neg b, if_pos (yp_dg_t.mpr (by omega))]
theorem yp_pk_in (hT : yk_T T M) (h1 : 0 ≤ p) (h2 : len ≤ 220) : -1 ≤ yp_pk T len p ∧ yp_pk T len p ≤ 255 := by
  unfold yp_pk
  split
  · have := (hT p h1 (by omega)).2
    omega
  · omega
theorem ze_factOf (h1 : -1 ≤ c) (h2 : c ≤ 255) : zf_M_factOf c = some (yp_lt c) := by
  have h : ∀ k : Nat, k < 257 → zf_M_factOf ((k : Int) - 1) = some (yp_lt ((k : Int) - 1)) := by decide +kernel
  have := h (c + 1).toNat (by omega)
  rwa [show (((c + 1).toNat : Nat) : Int) - 1 = c by omega] at this
theorem ze_sumSign : zf_M_sumSign c = some (yp_ss c) := by
  unfold zf_M_sumSign yp_ss
  (repeat' split) <;> first | rfl | (exfalso; omega)
theorem ze_notes (m1 : 0 ≤ m) (m2 : m < 220) (x1 : 0 ≤ x) (x2 : x ≤ 14) (y1 : 0 ≤ y) (y2 : y < 1048576) : zf_M_notes x y m D = some (m + 1, zv_up D m (1048576 * x + y)) := by
  unfold zf_M_notes
  rw [zl_ci m1 (by omega), zi_w_id (x := m + 1) (by omega) (by omega), zi_w_id (x := 1048576 * x) (by omega) (by omega), zi_w_id (x := 1048576 * x + y) (by omega) (by omega)]
theorem ze_opens (h6 : o ≠ 6) (k1 : 0 ≤ k) (k2 : k < 220) (p1 : 0 ≤ p) (p2 : p ≤ 220) (o1 : 0 ≤ o) (o2 : o ≤ 6) (x1 : 0 ≤ x) (x2 : x ≤ 14) : zf_M_opens x o k p f W = some (1, o + 1, k + 1, p + 1, f, zv_up W k (1048576 * x)) := by
  unfold zf_M_opens
  rw [if_neg h6, zl_ci k1 (by omega), zi_w_id (x := o + 1) (by omega) (by omega), zi_w_id (x := k + 1) (by omega) (by omega), zi_w_id (x := p + 1) (by omega) (by omega), zi_w_id (x := 1048576 * x) (by omega) (by omega)]
theorem ze_opens6 (h6 : o = 6) (p1 : 0 ≤ p) (p2 : p ≤ 220) : zf_M_opens x o k p f W = some (0, o, k, p, -5000 - p, W) := by
  unfold zf_M_opens
  rw [if_pos h6, ze_wrong p1 p2 (by decide) (by decide), zl_b]
  rfl
theorem ze_waitTop0 : zf_M_waitTop 0 W = some (-1) := by
  unfold zf_M_waitTop
  rw [if_pos rfl]
theorem ze_waitTop (k1 : 1 ≤ k) (k2 : k ≤ 220) : zf_M_waitTop k W = some (zi_div (W (k - 1)) 1048576) := by
  unfold zf_M_waitTop
  rw [if_neg (by omega), zi_w_id (x := k - 1) (by omega) (by omega), zl_ci (by omega) (by omega)]
theorem yk_div {s : Int} (h : W k = 1048576 * s + x) (s1 : 0 ≤ s) (s2 : s ≤ 14) (x1 : 0 ≤ x) (x2 : x < 1048576) : zi_div (W k) 1048576 = s ∧ zi_rem (W k) 1048576 = x := by
  rw [h, zi_div_eq (by omega) (by omega) (by decide) (by decide), zi_rem_eq (by omega) (by omega) (by decide) (by decide)]
  constructor <;> omega
end ZKE
theorem yk_c_em {c : zCD} {m kk v : Int} {D : Int → Int} (h : yk_c c m D) (k1 : 0 ≤ kk) (k2 : kk ≤ 12) (v1 : 0 ≤ v) (v2 : v < 1048576) : yk_c (yp_em kk v c) (m + 1) (zv_up D m (1048576 * zd_op kk + v)) := by
  obtain ⟨⟨e, c0⟩, h⟩ := h
  subst e
  refine ⟨⟨rfl, by show 0 ≤ c.1 + 1; omega⟩, fun j j1 j2 => ?_⟩
  have j2 : j < c.1 + 1 := j2
  show zv_up D c.1 _ j = 1048576 * zd_op (zv_up c.2.1 c.1 kk j) + zv_up c.2.2 c.1 v j ∧ (0 ≤ zv_up c.2.1 c.1 kk j ∧ zv_up c.2.1 c.1 kk j ≤ 12) ∧ 0 ≤ zv_up c.2.2 c.1 v j ∧ zv_up c.2.2 c.1 v j < 1048576
  by_cases ej : j = c.1
  · subst ej
    rw [zv_up_s, zv_up_s, zv_up_s]
    exact ⟨rfl, ⟨k1, k2⟩, v1, v2⟩
  · rw [zv_up_n ej, zv_up_n ej, zv_up_n ej]
    exact h j j1 (by omega)
/-- what waits, above a base -/
def yk_w (b : Int) : List Int → (Int → Int) → Int → Prop
  | [], _, k => k = b
  | s :: w, W, k => W (k - 1) = 1048576 * s ∧ ((2 ≤ s ∧ s ≤ 6) ∨ s = 14) ∧ yk_w b w W (k - 1)
def yk_n : List Int → Int
  | [] => 0
  | s :: w => (if s = 14 then 1 else 0) + yk_n w
def yk_b (b : Int) (W : Int → Int) : Prop := b = 0 ∨ (1 ≤ b ∧ 7 ≤ zi_div (W (b - 1)) 1048576)
theorem yk_w_le {b : Int} {W : Int → Int} : ∀ {w : List Int} {k : Int}, yk_w b w W k → k = b + w.length
  | [], k, h => by have h : k = b := h; rw [h]; show b = b + ((0 : Nat) : Int); omega
  | s :: w, k, h => by
    have := yk_w_le (w := w) h.2.2
    show k = b + ((w.length + 1 : Nat) : Int)
    omega
theorem yk_w_up {b : Int} {W W2 : Int → Int} : ∀ {w : List Int} {k : Int}, yk_w b w W k → (∀ j, j < k → W2 j = W j) → yk_w b w W2 k
  | [], _, h, _ => h
  | s :: w, k, h, q => ⟨(q (k - 1) (by omega)).trans h.1, h.2.1, yk_w_up h.2.2 fun j hj => q j (by omega)⟩
theorem yk_n0 : ∀ (w : List Int), 0 ≤ yk_n w
  | [] => Int.le_refl _
  | s :: w => by
    have := yk_n0 w
    show 0 ≤ (if s = 14 then 1 else 0) + yk_n w
    split <;> omega
theorem yk_n_0 : ∀ {w : List Int}, ¬ 14 ∈ w → yk_n w = 0
  | [], _ => rfl
  | s :: w, h => by
    show (if s = 14 then 1 else 0) + yk_n w = 0
    rw [if_neg (fun e => h (by rw [e]; exact List.mem_cons_self)), yk_n_0 (fun k => h (List.mem_cons_of_mem _ k))]
    rfl
theorem yp_cl_len {all : Bool} : ∀ (w : List Int) (c : zCD), (yp_cl all w c).2.1 + (yp_cl all w c).1.length = c.1 + w.length ∧ c.1 ≤ (yp_cl all w c).2.1
  | [], c => ⟨rfl, Int.le_refl _⟩
  | s :: w, c => by
    rw [yp_cl_c]
    split
    · obtain ⟨a, b⟩ := yp_cl_len (all := all) w (yp_em (s + 3) 0 c)
      have e : (yp_em (s + 3) 0 c).1 = c.1 + 1 := rfl
      rw [e] at a b
      refine ⟨?_, by omega⟩
      show _ = c.1 + ((w.length + 1 : Nat) : Int)
      omega
    · exact ⟨rfl, Int.le_refl _⟩
theorem yk_n_cl {all : Bool} : ∀ (w : List Int) (c : zCD), yk_n (yp_cl all w c).1 = yk_n w
  | [], c => rfl
  | s :: w, c => by
    rw [yp_cl_c]
    split
    · rename_i h
      rw [yk_n_cl (all := all) w]
      show yk_n w = (if s = 14 then 1 else 0) + yk_n w
      rw [if_neg (by rcases h with h | ⟨_, h⟩ <;> omega)]
      omega
    · rfl
theorem zd_op_s {s : Int} (h : 2 ≤ s) (h2 : s ≤ 6) : zd_op (s + 3) = s := by
  unfold zd_op
  rw [if_neg (by omega), if_neg (by omega), if_neg (by omega), if_neg (by omega), if_neg (by omega)]
  omega
section ZKS
variable {T M W : Int → Int} {b : Int}
/-- the top of what waits, or what lies under the base -/
theorem yk_closes_b {k m a : Int} {D : Int → Int} {n : Nat} (hb : yk_b b W) (e : k = b) (k2 : k ≤ 220) : zf_M_closesSums_l0 a W (n + 1) k m D = some (k, m, D) := by
  have ht : ∃ t, zf_M_waitTop k W = some t ∧ (t = -1 ∨ 7 ≤ t) := by
    subst e
    rcases hb with h | ⟨h1, h2⟩
    · exact ⟨-1, by rw [h]; exact ze_waitTop0, Or.inl rfl⟩
    · exact ⟨_, ze_waitTop h1 k2, Or.inr h2⟩
  obtain ⟨t, ht, h7⟩ := ht
  show zf_M_closesSums_l0_b a W (zf_M_closesSums_l0 a W n) k m D = _
  unfold zf_M_closesSums_l0_b
  rw [ht, zl_b]
  by_cases ha : a = 0
  · rcases h7 with h | h
    · rw [if_pos (by omega), if_pos ha]
    · rw [if_neg (by omega), zl_b, if_pos (by omega), if_pos ha]
  · rcases h7 with h | h
    · rw [if_pos (by omega), if_neg ha, zl_b, if_neg (by omega), zl_b, if_neg (by omega)]
    · rw [if_neg (by omega), zl_b, if_pos (by omega), if_neg ha, zl_b, if_neg (by omega), zl_b, if_neg (by omega)]
theorem yk_closes {all : Bool} {a : Int} (ha : (a = 0 ∧ all = false) ∨ (a = 1 ∧ all = true)) (hb : yk_b b W) (b0 : 0 ≤ b) : ∀ (w : List Int) (c : zCD) (k m : Int) (D : Int → Int) (n : Nat), yk_w b w W k → k ≤ 220 → yk_c c m D → c.1 + w.length ≤ 220 → w.length < n →
    zh_ok (zf_M_closesSums_l0 a W n k m D) (fun t => yk_w b (yp_cl all w c).1 W t.1 ∧ t.1 ≤ k ∧ yk_c (yp_cl all w c).2 t.2.1 t.2.2) := by
  intro w
  induction w with
  | nil =>
    intro c k m D n hw k2 hc hl hn
    obtain ⟨n, rfl⟩ : ∃ q, n = q + 1 := ⟨n - 1, by omega⟩
    rw [yk_closes_b hb hw k2]
    exact zh_ret ⟨hw, Int.le_refl _, hc⟩
  | cons s w ih =>
    intro c k m D n hw k2 hc hl hn
    obtain ⟨n, rfl⟩ : ∃ q, n = q + 1 := ⟨n - 1, by omega⟩
    have hk := yk_w_le hw
    obtain ⟨w1, w2, w3⟩ := hw
    have hl : c.1 + ((w.length + 1 : Nat) : Int) ≤ 220 := hl
    have hn : w.length + 1 < n + 1 := hn
    have hk : k = b + ((w.length + 1 : Nat) : Int) := hk
    obtain ⟨me, m0⟩ := hc.1
    have top : zf_M_waitTop k W = some s := by
      rw [ze_waitTop (by omega) k2, (yk_div (W := W) (k := k - 1) (s := s) (x := 0) (by rw [w1]; omega) (by omega) (by omega) (by decide) (by decide)).1]
    show zh_ok (zf_M_closesSums_l0_b a W (zf_M_closesSums_l0 a W n) k m D) _
    unfold zf_M_closesSums_l0_b
    rw [top, zl_b, zi_w_id (x := k - 1) (by omega) (by omega)]
    have go : (2 ≤ s ∧ s ≤ 6) → yp_cl all (s :: w) c = yp_cl all w (yp_em (s + 3) 0 c) → zh_ok ((zf_M_notes s 0 m D).bind fun r => (zf_M_closesSums_l0 a W n (k - 1) r.1 r.2)) (fun t => yk_w b (yp_cl all (s :: w) c).1 W t.1 ∧ t.1 ≤ k ∧ yk_c (yp_cl all (s :: w) c).2 t.2.1 t.2.2) := by
      intro hs e
      rw [ze_notes (by omega) (by omega) (by omega) (by omega) (by decide) (by decide), zl_b, e]
      have hc2 := yk_c_em (kk := s + 3) (v := 0) hc (by omega) (by omega) (by decide) (by decide)
      rw [zd_op_s hs.1 hs.2] at hc2
      refine zh_mono (ih (yp_em (s + 3) 0 c) (k - 1) (m + 1) _ n w3 (by omega) hc2 (by show c.1 + 1 + _ ≤ 220; omega) (by omega)) fun t ht => ⟨ht.1, by omega, ht.2.2⟩
    have stop : yp_cl all (s :: w) c = (s :: w, c) → zh_ok (some (k, m, D)) (fun t => yk_w b (yp_cl all (s :: w) c).1 W t.1 ∧ t.1 ≤ k ∧ yk_c (yp_cl all (s :: w) c).2 t.2.1 t.2.2) := by
      intro e
      rw [e]
      exact zh_ret ⟨⟨w1, w2, w3⟩, Int.le_refl _, hc⟩
    by_cases s4 : s < 4
    · rw [if_pos s4]
      rcases ha with ⟨a0, ae⟩ | ⟨a1, ae⟩
      · rw [if_pos a0]
        exact stop (by rw [yp_cl_c, if_neg (by rw [ae]; intro h; rcases h with h | ⟨h, _⟩; omega; cases h)])
      · rw [if_neg (by omega), zl_b]
        by_cases s2 : s = 2
        · rw [if_pos s2, zl_b]
          exact go (by omega) (by rw [yp_cl_c, if_pos (Or.inr ⟨ae, Or.inl s2⟩)])
        · rw [if_neg s2, zl_b]
          have s3 : s = 3 := by omega
          rw [if_pos s3, zl_b]
          exact go (by omega) (by rw [yp_cl_c, if_pos (Or.inr ⟨ae, Or.inr s3⟩)])
    · rw [if_neg s4, zl_b]
      by_cases s6 : 6 < s
      · rw [if_pos s6]
        have e : yp_cl all (s :: w) c = (s :: w, c) := by
          rw [yp_cl_c, if_neg]
          intro h
          rcases h with h | ⟨_, h⟩ <;> omega
        rcases ha with ⟨a0, ae⟩ | ⟨a1, ae⟩
        · rw [if_pos a0]; exact stop e
        · rw [if_neg (by omega), zl_b, if_neg (by omega), zl_b, if_neg (by omega)]; exact stop e
      · rw [if_neg s6, zl_b]
        exact go (by omega) (by rw [yp_cl_c, if_pos (Or.inl (by omega))])
theorem yk_w_mem : ∀ {w : List Int} {k : Int}, 0 ≤ b → yk_w b w W k → (14 ∈ w ↔ ∃ j, b ≤ j ∧ j < k ∧ zi_div (W j) 1048576 = 14)
  | [], k, b0, h => by
    have h : k = b := h
    exact ⟨fun h => (by cases h), fun ⟨j, a, c, _⟩ => by omega⟩
  | s :: w, k, b0, h => by
    have hk := yk_w_le h
    have hk : k = b + ((w.length + 1 : Nat) : Int) := hk
    obtain ⟨h1, h2, h3⟩ := h
    have ih := yk_w_mem b0 h3
    have hd := (yk_div (x := 0) (by rw [h1]; omega) (by omega) (by omega) (by decide) (by decide) : zi_div (W (k - 1)) 1048576 = s ∧ _).1
    rw [List.mem_cons]
    constructor
    · intro h
      rcases h with h | h
      · exact ⟨k - 1, by omega, by omega, by omega⟩
      · obtain ⟨j, a, c, d⟩ := ih.mp h
        exact ⟨j, a, by omega, d⟩
    · intro ⟨j, a, c, d⟩
      by_cases ej : j = k - 1
      · subst ej; left; omega
      · right; exact ih.mpr ⟨j, a, by omega, d⟩
theorem yk_has_l0 {k : Int} (b0 : 0 ≤ b) (k2 : k ≤ 220) : ∀ (q : Nat) (j : Int) (n : Nat), j + q = k → 0 ≤ j → q < n → zf_M_hasOpenSum_l0 k W n j = some (.inl ()) ∧ (¬ ∃ i, j ≤ i ∧ i < k ∧ zi_div (W i) 1048576 = 14) ∨ zf_M_hasOpenSum_l0 k W n j = some (.inr 1) ∧ ∃ i, j ≤ i ∧ i < k ∧ zi_div (W i) 1048576 = 14 := by
  intro q
  induction q with
  | zero =>
    intro j n e j0 hn
    obtain ⟨n, rfl⟩ : ∃ q, n = q + 1 := ⟨n - 1, by omega⟩
    refine Or.inl ⟨?_, fun ⟨i, a, c, _⟩ => by omega⟩
    show zf_M_hasOpenSum_l0_b k W (zf_M_hasOpenSum_l0 k W n) j = _
    unfold zf_M_hasOpenSum_l0_b
    rw [if_neg (by omega)]
  | succ q ih =>
    intro j n e j0 hn
    obtain ⟨n, rfl⟩ : ∃ q, n = q + 1 := ⟨n - 1, by omega⟩
    show zf_M_hasOpenSum_l0_b k W (zf_M_hasOpenSum_l0 k W n) j = _ ∧ _ ∨ zf_M_hasOpenSum_l0_b k W (zf_M_hasOpenSum_l0 k W n) j = _ ∧ _
    unfold zf_M_hasOpenSum_l0_b
    rw [if_pos (by omega), zl_ci j0 (by omega), zi_w_id (x := j + 1) (by omega) (by omega)]
    by_cases h : zi_div (W j) 1048576 = 14
    · rw [if_pos h]
      exact Or.inr ⟨rfl, j, Int.le_refl _, by omega, h⟩
    · rw [if_neg h]
      rcases ih (j + 1) n (by omega) (by omega) (by omega) with ⟨a, c⟩ | ⟨a, i, c1, c2, c3⟩
      · exact Or.inl ⟨a, fun ⟨i, d1, d2, d3⟩ => c ⟨i, by
          by_cases ei : i = j
          · subst ei; exact absurd d3 h
          · omega, d2, d3⟩⟩
      · exact Or.inr ⟨a, i, by omega, c2, c3⟩
theorem ze_hasOpenSum {w : List Int} {k : Int} (b0 : 0 ≤ b) (k2 : k ≤ 220) (hw : yk_w b w W k) : zf_M_hasOpenSum b k W = some (if 14 ∈ w then 1 else 0) := by
  have hk := yk_w_le hw
  unfold zf_M_hasOpenSum
  rcases yk_has_l0 (W := W) b0 k2 w.length b zi_fu (by omega) b0 (by have : 1000 < zi_fu := (by decide); omega) with ⟨a, c⟩ | ⟨a, c⟩
  · rw [a, if_neg (fun h => c ((yk_w_mem b0 hw).mp h))]
    rfl
  · rw [a, if_pos ((yk_w_mem b0 hw).mpr c)]
    rfl
theorem ze_Mnum_l0 {len f x : Int} (hT : yk_T T M) (hl : len ≤ 200) (x0 : 0 ≤ x) : ∀ (k : Nat) (v p : Int) (n : Nat), p + k = x + 5 → k ≤ 5 → k < n → 0 ≤ v → v ≤ yp_bd k → 0 ≤ p → p ≤ len → zf_M_readsNumber_l0 x len f M n p v = if yp_dg (yp_pk T len (yp_nm T len k v p).2) = true then some (.inr (0, (yp_nm T len k v p).2, (yp_nm T len k v p).1, -2000 - (yp_nm T len k v p).2)) else some (.inl ((yp_nm T len k v p).2, (yp_nm T len k v p).1)) := by
  intro k
  induction k with
  | zero =>
    intro v p n e _ hn v1 v2 p1 p2
    obtain ⟨n, rfl⟩ : ∃ q, n = q + 1 := ⟨n - 1, by omega⟩
    show zf_M_readsNumber_l0_b x len f M (zf_M_readsNumber_l0 x len f M n) p v = if yp_dg (yp_pk T len p) = true then some (.inr (0, p, v, -2000 - p)) else some (.inl (p, v))
    unfold zf_M_readsNumber_l0_b
    rw [ze_Mdigit hT p1 (by omega), zl_b, zi_w_id (x := x + 5) (by omega) (by omega)]
    by_cases h : yp_dg (yp_pk T len p) = true
    · rw [if_pos h, if_pos h, if_neg (by decide), if_pos (by omega), ze_wrong p1 (by omega) (by decide) (by decide), zl_b]
      rfl
    · rw [if_neg h, if_neg h, if_pos rfl]
  | succ k ih =>
    intro v p n e hk hn v1 v2 p1 p2
    obtain ⟨n, rfl⟩ : ∃ q, n = q + 1 := ⟨n - 1, by omega⟩
    obtain ⟨b1, b2⟩ := yp_bd_s k (by omega)
    show zf_M_readsNumber_l0_b x len f M (zf_M_readsNumber_l0 x len f M n) p v = _
    unfold zf_M_readsNumber_l0_b
    rw [ze_Mdigit hT p1 (by omega), zl_b, zi_w_id (x := x + 5) (by omega) (by omega)]
    by_cases h : yp_dg (yp_pk T len p) = true
    · have hd := yp_dg_t.mp h
      have hp2 : p < len := yp_pk_lt (T := T) (by omega)
      have e2 : yp_nm T len (k + 1) v p = yp_nm T len k (10 * v + yp_pk T len p - 48) (p + 1) := by
        show (if yp_dg (yp_pk T len p) = true then _ else _) = _
        rw [if_pos h]
      rw [e2, if_pos h, if_neg (by decide), if_neg (by omega), ze_here hT p1 (by omega), zl_b, zi_w_id (x := 10 * v) (by omega) (by omega), zi_w_id (x := 10 * v + yp_pk T len p) (by omega) (by omega), zi_w_id (x := 10 * v + yp_pk T len p - 48) (by omega) (by omega), zi_w_id (x := p + 1) (by omega) (by omega)]
      exact ih _ _ _ (by omega) (by omega) (by omega) (by omega) (by omega) (by omega) (by omega)
    · have e2 : yp_nm T len (k + 1) v p = (v, p) := by
        show (if yp_dg (yp_pk T len p) = true then _ else _) = _
        rw [if_neg h]
      rw [e2, if_neg h, if_pos rfl]
      show _ = if yp_dg (yp_pk T len p) = true then _ else _
      rw [if_neg h]
theorem ze_Mnum {len f g p : Int} (hT : yk_T T M) (hl : len ≤ 200) (p1 : 0 ≤ p) (p2 : p ≤ len) : zf_M_readsNumber p g len f M = some (if yp_dg (yp_pk T len (yp_nm T len 5 0 p).2) = true then (0, (yp_nm T len 5 0 p).2, (yp_nm T len 5 0 p).1, -2000 - (yp_nm T len 5 0 p).2) else (1, (yp_nm T len 5 0 p).2, (yp_nm T len 5 0 p).1, f)) := by
  unfold zf_M_readsNumber
  rw [ze_Mnum_l0 hT hl p1 5 0 p zi_fu (by omega) (by decide) (by decide) (by decide) (by decide) p1 p2]
  by_cases h : yp_dg (yp_pk T len (yp_nm T len 5 0 p).2) = true
  · rw [if_pos h, if_pos h]; rfl
  · rw [if_neg h, if_neg h]; rfl
end ZKS
/-- a state of the reference while it reads a sum -/
def yk_st (b o0 len : Int) (sl : Nat) (lo : Int) (W0 : Int → Int) (w : List Int) (c : zCD) (k p o m : Int) (W D : Int → Int) : Prop :=
  yk_w b w W k ∧ yk_c c m D ∧ o = o0 + yk_n w ∧ (0 ≤ p ∧ p ≤ len) ∧ k ≤ p ∧ (c.1 + w.length + sl ≤ p ∧ lo ≤ c.1) ∧ (∀ j, j < b → W j = W0 j)
section ZKR
variable {T M W0 : Int → Int} {b o0 len lo : Int} {sl : Nat}
theorem ys_fact_l (hT : yk_T T M) (hl : len ≤ 200) (b0 : 0 ≤ b) (o1 : 0 ≤ o0) : ∀ (N : Nat) (w : List Int) (o p : Int) (c : zCD) (k f m num : Int) (W D : Int → Int) (r : Int ⊕ (Int × zCD)) (n : Nat), yp_S T len N true w o p c = some r → yk_st b o0 len sl lo W0 w c k p o m W D → o ≤ 6 → N < n →
    zh_ok (zf_M_readsFactor_l0 len m num M D n p o k f W) (fun t => Sum.elim (fun e => ∃ N' w', N' ≤ N ∧ yp_S T len N' true w' e.2.1 e.1 c = some r ∧ yp_pk T len e.1 ≠ 91 ∧ e.2.1 ≤ 6 ∧ yk_st b o0 len sl lo W0 w' c e.2.2.1 e.1 e.2.1 m e.2.2.2.2 D ∧ e.2.2.2.1 = f) (fun t => t.1 = 0 ∧ r = .inl t.2.2.2.2.1) t) := by
  intro N
  induction N with
  | zero => intro w o p c k f m num W D r n h; exact zl_ns h
  | succ N ih =>
    intro w o p c k f m num W D r n h hs o6 hn
    obtain ⟨n, rfl⟩ : ∃ q, n = q + 1 := ⟨n - 1, by omega⟩
    have hs0 := hs
    obtain ⟨s1, s2, s3, ⟨s4, s5⟩, s6, ⟨s7, s9⟩, s8⟩ := hs
    have hk := yk_w_le s1
    have hn0 := yk_n0 w
    show zh_ok (zf_M_readsFactor_l0_b len m num M D (zf_M_readsFactor_l0 len m num M D n) p o k f W) _
    unfold zf_M_readsFactor_l0_b
    rw [ze_here hT s4 (by omega), zl_b]
    by_cases h91 : yp_pk T len p = 91
    · have hp : p < len := yp_pk_lt (T := T) (by omega)
      rw [yp_S_t, if_pos h91] at h
      rw [if_pos h91]
      by_cases ho : o = 6
      · rw [if_pos ho] at h
        cases h
        rw [ze_opens6 ho s4 (by omega), zl_b]
        show zh_ok (if (0 : Int) = 0 then _ else _) _
        rw [if_pos rfl]
        exact zh_ret ⟨rfl, rfl⟩
      · rw [if_neg ho] at h
        rw [ze_opens ho (by omega) (by omega) s4 (by omega) (by omega) (by omega) (by decide) (by decide), zl_b]
        show zh_ok (if (1 : Int) = 0 then _ else _) _
        rw [if_neg (by decide)]
        have hst : yk_st b o0 len sl lo W0 (14 :: w) c (k + 1) (p + 1) (o + 1) m (zv_up W k (1048576 * 14)) D := by
          refine ⟨⟨?_, Or.inr rfl, ?_⟩, s2, ?_, ⟨by omega, by omega⟩, by omega, ⟨?_, s9⟩, fun j hj => ?_⟩
          · rw [show k + 1 - 1 = k by omega, zv_up_s]
          · rw [show k + 1 - 1 = k by omega]
            exact yk_w_up s1 fun j hj => zv_up_n (by omega)
          · show o + 1 = o0 + ((if (14 : Int) = 14 then 1 else 0) + yk_n w)
            rw [if_pos rfl]; omega
          · show c.1 + ((w.length + 1 : Nat) : Int) + sl ≤ p + 1
            omega
          · rw [zv_up_n (by omega)]; exact s8 j hj
        refine zh_mono (ih (14 :: w) (o + 1) (p + 1) c (k + 1) f m num _ D r n h hst (by omega) (by omega)) fun t ht => ?_
        cases t with
        | inl e =>
          obtain ⟨N', w', a1, a2⟩ := ht
          exact ⟨N', w', by omega, a2⟩
        | inr e => exact ht
    · rw [if_neg h91]
      exact zh_ret ⟨N + 1, w, Nat.le_refl _, h, h91, o6, hs0, rfl⟩
theorem ys_fact (hT : yk_T T M) (hl : len ≤ 200) (b0 : 0 ≤ b) (o1 : 0 ≤ o0) {N : Nat} {w : List Int} {o p : Int} {c : zCD} {k f m num : Int} {W D : Int → Int} {r : Int ⊕ (Int × zCD)} (h : yp_S T len N true w o p c = some r) (hs : yk_st b o0 len sl lo W0 w c k p o m W D) (o6 : o ≤ 6) (hN : N < zi_fu) :
    zh_ok (zf_M_readsFactor p len o k f m num M W D) (fun t => (t.1 = 0 ∧ r = .inl t.2.2.2.2.1) ∨ (t.1 = 1 ∧ ∃ N' w' c', N' < N ∧ yp_S T len N' false w' t.2.2.1 t.2.1 c' = some r ∧ t.2.2.1 ≤ 6 ∧ yk_st b o0 len sl lo W0 w' c' t.2.2.2.1 t.2.1 t.2.2.1 t.2.2.2.2.2.1 t.2.2.2.2.2.2.2.1 t.2.2.2.2.2.2.2.2)) := by
  unfold zf_M_readsFactor
  refine zh_bind (ys_fact_l hT hl b0 o1 N w o p c k f m num W D r zi_fu h hs o6 hN) fun t ht => ?_
  cases t with
  | inr e => exact zh_ret (Or.inl ht)
  | inl e =>
    obtain ⟨N', w', a1, a2, a3, a4, a5, a6⟩ := ht
    show zh_ok ((zf_M_isDigit e.1 len M).bind _) _
    have a5' := a5
    obtain ⟨s1, s2, s3, ⟨s4, s5⟩, s6, ⟨s7, s9⟩, s8⟩ := a5
    obtain ⟨⟨me, m0⟩, -⟩ := id s2
    obtain ⟨N', rfl⟩ : ∃ q, N' = q + 1 := by
      cases N' with
      | zero => exact zl_ns a2
      | succ q => exact ⟨q, rfl⟩
    rw [yp_S_t, if_neg a3] at a2
    rw [ze_Mdigit hT s4 (by omega), zl_b]
    by_cases hd : yp_dg (yp_pk T len e.1) = true
    · rw [if_pos hd] at a2
      rw [if_pos hd, if_neg (by decide), ze_Mnum hT hl s4 s5, zl_b]
      have hdd := yp_dg_t.mp hd
      obtain ⟨q1, q2, q3, q4⟩ := yp_nm_in (T := T) (len := len) 5 0 e.1 (by decide) (by decide) (by decide) s5
      have q5 : e.1 < (yp_nm T len 5 0 e.1).2 := yp_nm_lt (T := T) (k := 4) hd (by decide) (by decide : (0 : Int) ≤ 0) (by decide)
      generalize yp_nm T len 5 0 e.1 = q at a2 q1 q2 q3 q4 q5 ⊢
      by_cases h6 : yp_dg (yp_pk T len q.2) = true
      · rw [if_pos h6] at a2
        cases a2
        rw [if_pos h6]
        show zh_ok (if (0 : Int) = 0 then _ else _) _
        rw [if_pos rfl]
        exact zh_ret (Or.inl ⟨rfl, rfl⟩)
      · rw [if_neg h6] at a2
        rw [if_neg h6]
        show zh_ok (if (1 : Int) = 0 then _ else _) _
        rw [if_neg (by decide)]
        show zh_ok ((zf_M_notes 0 q.1 m D).bind _) _
        rw [ze_notes (by omega) (by omega) (by decide) (by decide) q1.1 (by omega), zl_b]
        have hc2 := yk_c_em (kk := 0) (v := q.1) s2 (by decide) (by decide) q1.1 (by omega)
        refine zh_ret (Or.inr ⟨rfl, N', w', _, by omega, a2, a4, s1, hc2, s3, ⟨?_, q4⟩, ?_, ⟨?_, ?_⟩, s8⟩)
        · show 0 ≤ q.2; omega
        · show e.2.2.1 ≤ q.2; omega
        · show c.1 + 1 + _ + _ ≤ q.2; omega
        · show lo ≤ c.1 + 1; omega
    · rw [if_neg hd] at a2
      rw [if_neg hd, if_pos rfl, ze_here hT s4 (by omega), zl_b]
      have hpi := yp_pk_in hT s4 (show len ≤ 220 by omega)
      rw [ze_factOf hpi.1 hpi.2, zl_b]
      by_cases hl1 : yp_lt (yp_pk T len e.1) = -1
      · rw [if_pos hl1] at a2
        cases a2
        rw [if_pos hl1, ze_wrong s4 (by omega) (by decide) (by decide), zl_b]
        exact zh_ret (Or.inl ⟨rfl, rfl⟩)
      · rw [if_neg hl1] at a2
        have hli := (yp_lt_in (yp_pk T len e.1)).resolve_left hl1
        have hp : e.1 < len := yp_pk_lt (T := T) (fun h => by rw [h] at hl1; exact hl1 (by decide))
        rw [if_neg hl1, ze_notes (by omega) (by omega) (by decide) (by decide) hli.1 (by omega), zl_b, zi_w_id (x := e.1 + 1) (by omega) (by omega)]
        have hc2 := yk_c_em (kk := 1) (v := yp_lt (yp_pk T len e.1)) s2 (by decide) (by decide) hli.1 (by omega)
        refine zh_ret (Or.inr ⟨rfl, N', w', _, by omega, a2, a4, s1, hc2, s3, ⟨?_, ?_⟩, ?_, ⟨?_, ?_⟩, s8⟩)
        · show 0 ≤ e.1 + 1; omega
        · show e.1 + 1 ≤ len; omega
        · show e.2.2.1 ≤ e.1 + 1; omega
        · show c.1 + 1 + _ + _ ≤ e.1 + 1; omega
        · show lo ≤ c.1 + 1; omega
theorem yk_w_all {w : List Int} : ∀ {k : Int} {W : Int → Int}, yk_w b w W k → ∀ s ∈ w, (2 ≤ s ∧ s ≤ 6) ∨ s = 14 := by
  induction w with
  | nil => intro k W _ s hs; cases hs
  | cons s w ih =>
    intro k W h x hx
    rcases List.mem_cons.mp hx with e | e
    · rw [e]; exact h.2.1
    · exact ih h.2.2 x e
theorem yk_cl14 : ∀ (w : List Int) (c : zCD), (∀ s ∈ w, (2 ≤ s ∧ s ≤ 6) ∨ s = 14) → 14 ∈ w → ∃ w2, (yp_cl true w c).1 = 14 :: w2
  | [], _, _, hm => by cases hm
  | s :: w, c, ha, hm => by
    rw [yp_cl_c]
    by_cases h : s = 14
    · subst h
      exact ⟨w, by rw [if_neg (by intro h; rcases h with h | ⟨_, h⟩ <;> omega)]⟩
    · have hs := (ha s List.mem_cons_self).resolve_right h
      rw [if_pos (by
        by_cases h4 : 4 ≤ s
        · exact Or.inl ⟨h4, hs.2⟩
        · exact Or.inr ⟨rfl, by omega⟩)]
      exact yk_cl14 w _ (fun x hx => ha x (List.mem_cons_of_mem _ hx)) ((List.mem_cons.mp hm).resolve_left (fun e => h e.symm))
theorem yk_cl0 : ∀ (w : List Int) (c : zCD), (∀ s ∈ w, (2 ≤ s ∧ s ≤ 6) ∨ s = 14) → ¬ 14 ∈ w → (yp_cl true w c).1 = []
  | [], _, _, _ => rfl
  | s :: w, c, ha, hm => by
    rw [yp_cl_c]
    have hs := (ha s List.mem_cons_self).resolve_right (fun e => hm (by rw [e]; exact List.mem_cons_self))
    rw [if_pos (by
      by_cases h4 : 4 ≤ s
      · exact Or.inl ⟨h4, hs.2⟩
      · exact Or.inr ⟨rfl, by omega⟩)]
    exact yk_cl0 w _ (fun x hx => ha x (List.mem_cons_of_mem _ hx)) (fun e => hm (List.mem_cons_of_mem _ e))
theorem ys_loop (hT : yk_T T M) (hl : len ≤ 200) (b0 : 0 ≤ b) (hb : yk_b b W0) (o1 : 0 ≤ o0) : ∀ (B N : Nat), N ≤ B → B < zi_fu → ∀ (w : List Int) (o p : Int) (c : zCD) (k f m num : Int) (W D : Int → Int) (r : Int ⊕ (Int × zCD)) (n : Nat), yp_S T len N false w o p c = some r → yk_st b o0 len sl lo W0 w c k p o m W D → o ≤ 6 → N < n →
    zh_ok (zf_M_readsSum_l0 b len M n k p o f m num W D) (fun t => Sum.elim (fun e => ∃ w' c', yp_S T len 1 false w' e.2.2.1 e.2.1 c' = some r ∧ yp_ss (yp_pk T len e.2.1) = -1 ∧ ¬ (yp_pk T len e.2.1 = 93 ∧ 14 ∈ w') ∧ yk_st b o0 len sl lo W0 w' c' e.1 e.2.1 e.2.2.1 e.2.2.2.2.1 e.2.2.2.2.2.2.1 e.2.2.2.2.2.2.2) (fun t => t.1 = 0 ∧ r = .inl t.2.2.2.2.1) t) := by
  intro B
  induction B with
  | zero =>
    intro N hN _ w o p c k f m num W D r n h
    obtain rfl : N = 0 := by omega
    exact zl_ns h
  | succ B ih =>
    intro N hN hB w o p c k f m num W D r n h hs o6 hn
    obtain ⟨N, rfl⟩ : ∃ q, N = q + 1 := by
      cases N with
      | zero => exact zl_ns h
      | succ q => exact ⟨q, rfl⟩
    obtain ⟨n, rfl⟩ : ∃ q, n = q + 1 := ⟨n - 1, by omega⟩
    have hs0 := hs
    obtain ⟨s1, s2, s3, ⟨s4, s5⟩, s6, ⟨s7, s9⟩, s8⟩ := hs
    obtain ⟨⟨me, m0⟩, -⟩ := id s2
    have hk := yk_w_le s1
    have hn0 := yk_n0 w
    have hbW : yk_b b W := by
      rcases hb with h | ⟨h1, h2⟩
      · exact Or.inl h
      · exact Or.inr ⟨h1, by rw [s8 _ (by omega)]; exact h2⟩
    have fu : 1000 < zi_fu := by decide
    have h0 := h
    rw [yp_S_f] at h
    show zh_ok (zf_M_readsSum_l0_b b len M (zf_M_readsSum_l0 b len M n) k p o f m num W D) _
    unfold zf_M_readsSum_l0_b
    rw [ze_here hT s4 (by omega), zl_b, ze_sumSign, zl_b]
    by_cases hss : yp_ss (yp_pk T len p) = -1
    · rw [if_neg (fun h => h hss)] at h
      rw [if_pos hss, zl_b]
      by_cases h93 : yp_pk T len p = 93
      · rw [if_pos h93, ze_hasOpenSum b0 (by omega) s1, zl_b]
        by_cases hm : 14 ∈ w
        · rw [if_pos hm, if_pos h93] at h
          rw [if_pos hm, if_neg (by decide)]
          have hp : p < len := yp_pk_lt (T := T) (by omega)
          unfold zf_M_closesSums
          have hcl := yp_cl_len (all := true) w c
          have hnc := yk_n_cl (all := true) w c
          obtain ⟨t, et, t1, t2, t3⟩ := yk_closes (Or.inr ⟨rfl, rfl⟩) hbW b0 w c k m D zi_fu s1 (by omega) s2 (by omega) (by omega)
          rw [et, zl_b, zl_b]
          obtain ⟨w2, hw2⟩ := yk_cl14 w c (yk_w_all s1) hm
          rw [hw2] at t1 h hcl hnc
          obtain ⟨t1a, t1b, t1c⟩ := t1
          have ht := yk_w_le t1c
          have hcl1 : (yp_cl true w c).2.1 + ((w2.length + 1 : Nat) : Int) = c.1 + w.length := hcl.1
          have hnc : (if (14 : Int) = 14 then 1 else 0) + yk_n w2 = yk_n w := hnc
          rw [if_pos rfl] at hnc
          have hn2 := yk_n0 w2
          rw [zi_w_id (x := t.1 - 1) (by omega) (by omega), zi_w_id (x := p + 1) (by omega) (by omega), zi_w_id (x := o - 1) (by omega) (by omega)]
          exact ih N (by omega) (by omega) w2 (o - 1) (p + 1) (yp_cl true w c).2 (t.1 - 1) f t.2.1 num W t.2.2 r n h ⟨t1c, t3, by omega, ⟨by omega, by omega⟩, by omega, ⟨by omega, by have := hcl.2; omega⟩, s8⟩ (by omega) (by omega)
        · rw [if_neg hm, if_pos rfl]
          exact zh_ret ⟨w, c, by rw [yp_S_f, if_neg (fun h => h hss), if_neg hm]; rw [if_neg hm] at h; exact h, hss, fun h => hm h.2, hs0⟩
      · rw [if_neg h93]
        refine zh_ret ⟨w, c, ?_, hss, fun h => h93 h.1, hs0⟩
        rw [yp_S_f, if_neg (fun h => h hss)]
        by_cases hm : 14 ∈ w
        · rw [if_pos hm, if_neg h93] at h ⊢; exact h
        · rw [if_neg hm] at h ⊢; exact h
    · rw [if_pos hss] at h
      have hsr := (yp_ss_in (yp_pk T len p)).resolve_left hss
      have hp : p < len := yp_pk_lt (T := T) (fun e => by rw [e] at hss; exact hss (by decide))
      rw [if_neg hss]
      have go : ∀ all a, ((a = 0 ∧ all = false) ∨ (a = 1 ∧ all = true)) → yp_S T len N true (yp_ss (yp_pk T len p) :: (yp_cl all w c).1) o (p + 1) (yp_cl all w c).2 = some r →
          zh_ok ((zf_M_closesSums a k m W D).bind fun r12 => (cond (zi_ix r12.1 220) ((zf_M_readsFactor (zi_w (p + 1)) len o (zi_w (r12.1 + 1)) f r12.2.1 num M (zv_up W r12.1 (zi_w (1048576 * yp_ss (yp_pk T len p)))) r12.2.2).bind fun r14 => (if r14.1 = 0 then (some (.inr (0, r14.2.2.2.1, r14.2.1, r14.2.2.1, r14.2.2.2.2.1, r14.2.2.2.2.2.1, r14.2.2.2.2.2.2.1, r14.2.2.2.2.2.2.2.1, r14.2.2.2.2.2.2.2.2))) else (zf_M_readsSum_l0 b len M n r14.2.2.2.1 r14.2.1 r14.2.2.1 r14.2.2.2.2.1 r14.2.2.2.2.2.1 r14.2.2.2.2.2.2.1 r14.2.2.2.2.2.2.2.1 r14.2.2.2.2.2.2.2.2))) none))
            (fun t => Sum.elim (fun e => ∃ w' c', yp_S T len 1 false w' e.2.2.1 e.2.1 c' = some r ∧ yp_ss (yp_pk T len e.2.1) = -1 ∧ ¬ (yp_pk T len e.2.1 = 93 ∧ 14 ∈ w') ∧ yk_st b o0 len sl lo W0 w' c' e.1 e.2.1 e.2.2.1 e.2.2.2.2.1 e.2.2.2.2.2.2.1 e.2.2.2.2.2.2.2) (fun t => t.1 = 0 ∧ r = .inl t.2.2.2.2.1) t) := by
        intro all a ha h
        have hcl := yp_cl_len (all := all) w c
        have hnc := yk_n_cl (all := all) w c
        unfold zf_M_closesSums
        obtain ⟨t, et, t1, t2, t3⟩ := yk_closes ha hbW b0 w c k m D zi_fu s1 (by omega) s2 (by omega) (by omega)
        have ht := yk_w_le t1
        rw [et, zl_b, zl_b, zl_ci (show 0 ≤ t.1 by omega) (show t.1 < ((220 : Nat) : Int) by omega)]
        show zh_ok ((zf_M_readsFactor (zi_w (p + 1)) len o (zi_w (t.1 + 1)) f t.2.1 num M (zv_up W t.1 (zi_w (1048576 * yp_ss (yp_pk T len p)))) t.2.2).bind _) _
        rw [zi_w_id (x := p + 1) (by omega) (by omega), zi_w_id (x := t.1 + 1) (by omega) (by omega), zi_w_id (x := 1048576 * yp_ss (yp_pk T len p)) (by omega) (by omega)]
        have hst : yk_st b o0 len sl lo W0 (yp_ss (yp_pk T len p) :: (yp_cl all w c).1) (yp_cl all w c).2 (t.1 + 1) (p + 1) o t.2.1 (zv_up W t.1 (1048576 * yp_ss (yp_pk T len p))) t.2.2 := by
          refine ⟨⟨?_, Or.inl hsr, ?_⟩, t3, ?_, ⟨by omega, by omega⟩, by omega, ⟨?_, by have := hcl.2; omega⟩, fun j hj => ?_⟩
          · rw [show t.1 + 1 - 1 = t.1 by omega, zv_up_s]
          · rw [show t.1 + 1 - 1 = t.1 by omega]
            exact yk_w_up t1 fun j hj => zv_up_n (by omega)
          · show o = o0 + ((if yp_ss (yp_pk T len p) = 14 then 1 else 0) + yk_n (yp_cl all w c).1)
            rw [if_neg (by omega), hnc]; omega
          · show (yp_cl all w c).2.1 + (((yp_cl all w c).1.length + 1 : Nat) : Int) + sl ≤ p + 1
            omega
          · rw [zv_up_n (by omega)]; exact s8 j hj
        refine zh_bind (ys_fact hT hl b0 o1 h hst o6 (by omega)) fun q hq => ?_
        rcases hq with ⟨q1, q2⟩ | ⟨q1, N', w', c', q2, q3, q4, q5⟩
        · rw [if_pos q1]
          exact zh_ret ⟨rfl, q2⟩
        · rw [if_neg (by omega)]
          exact ih N' (by omega) (by omega) w' _ _ c' _ _ _ _ _ _ r n q3 q5 q4 (by omega)
      by_cases h4 : yp_ss (yp_pk T len p) < 4
      · rw [if_pos h4]
        rw [decide_eq_true h4] at h
        exact go true 1 (Or.inr ⟨rfl, rfl⟩) h
      · rw [if_neg h4]
        rw [decide_eq_false h4] at h
        exact go false 0 (Or.inl ⟨rfl, rfl⟩) h
theorem ys_sum (hT : yk_T T M) (hl : len ≤ 200) (b0 : 0 ≤ b) {N : Nat} {o p : Int} {c : zCD} {f m num : Int} {W D : Int → Int} {r : Int ⊕ (Int × zCD)} (h : yp_S T len N true [] o p c = some r) (hN : N < 2000) (hb : yk_b b W) (hc : yk_c c m D) (p1 : 0 ≤ p) (p2 : p ≤ len) (kp : b ≤ p) (cp : c.1 + sl ≤ p) (o1 : 0 ≤ o) (o6 : o ≤ 6) :
    zh_ok (zf_M_readsSum b p len o f m num M W D) (fun t => (t.1 = 0 ∧ r = .inl t.2.2.2.2.1) ∨ (t.1 = 1 ∧ ∃ c', r = .inr (t.2.2.1, c') ∧ t.2.1 = b ∧ t.2.2.2.1 = o ∧ yk_c c' t.2.2.2.2.2.1 t.2.2.2.2.2.2.2.2 ∧ (0 ≤ t.2.2.1 ∧ t.2.2.1 ≤ len) ∧ b ≤ t.2.2.1 ∧ (c'.1 + sl ≤ t.2.2.1 ∧ c.1 ≤ c'.1) ∧ ∀ j, j < b → t.2.2.2.2.2.2.2.1 j = W j)) := by
  have fu : 1000000 < zi_fu := by decide
  unfold zf_M_readsSum
  refine zh_bind (ys_fact (b := b) (o0 := o) (sl := sl) (lo := c.1) (W0 := W) (w := []) hT hl b0 o1 h ⟨rfl, hc, (by show o = o + 0; omega), ⟨p1, p2⟩, kp, ⟨(by show c.1 + ((0 : Nat) : Int) + sl ≤ p; omega), Int.le_refl _⟩, fun _ _ => rfl⟩ o6 (by omega)) fun q hq => ?_
  rcases hq with ⟨q1, q2⟩ | ⟨q1, N', w', c', q2, q3, q4, q5⟩
  · rw [if_pos q1]
    exact zh_ret (Or.inl ⟨rfl, q2⟩)
  · rw [if_neg (by omega)]
    refine zh_bind (ys_loop hT hl b0 hb o1 2000 N' (by omega) (by omega) w' _ _ c' _ _ _ _ _ _ r zi_fu q3 q5 q4 (by omega)) fun t ht => ?_
    cases t with
    | inr e => exact zh_ret (Or.inl ht)
    | inl e =>
      obtain ⟨w2, c2, a1, a2, a3, a4⟩ := ht
      obtain ⟨s1, s2, s3, ⟨s4, s5⟩, s6, ⟨s7, s9⟩, s8⟩ := a4
      have hk := yk_w_le s1
      rw [yp_S_f, if_neg (fun h => h a2)] at a1
      show zh_ok ((zf_M_hasOpenSum b e.1 e.2.2.2.2.2.2.1).bind _) _
      rw [ze_hasOpenSum b0 (by omega) s1, zl_b]
      by_cases hm : 14 ∈ w2
      · rw [if_pos hm, if_neg (fun h => a3 ⟨h, hm⟩)] at a1
        cases a1
        rw [if_pos hm, if_neg (by decide), ze_wrong s4 (by omega) (by decide) (by decide), zl_b]
        exact zh_ret (Or.inl ⟨rfl, rfl⟩)
      · rw [if_neg hm] at a1
        cases a1
        rw [if_neg hm, if_pos rfl]
        have hbW : yk_b b e.2.2.2.2.2.2.1 := by
          rcases hb with h | ⟨h1, h2⟩
          · exact Or.inl h
          · exact Or.inr ⟨h1, by rw [s8 _ (by omega)]; exact h2⟩
        have hcl := yp_cl_len (all := true) w2 c2
        have h0 := yk_cl0 w2 c2 (yk_w_all s1) hm
        unfold zf_M_closesSums
        obtain ⟨t, et, t1, t2, t3⟩ := yk_closes (Or.inr ⟨rfl, rfl⟩) hbW b0 w2 c2 e.1 e.2.2.2.2.1 e.2.2.2.2.2.2.2 zi_fu s1 (by omega) s2 (by omega) (by omega)
        rw [et, zl_b, zl_b]
        rw [h0] at t1 hcl
        have t1 : t.1 = b := t1
        have hcl1 : (yp_cl true w2 c2).2.1 + ((0 : Nat) : Int) = c2.1 + w2.length := hcl.1
        have hz := yk_n_0 hm
        refine zh_ret (Or.inr ⟨rfl, _, rfl, t1, ?_, t3, ⟨s4, s5⟩, ?_, ⟨?_, by have := hcl.2; omega⟩, s8⟩)
        · show e.2.2.1 = o; omega
        · show b ≤ e.2.1; omega
        · show (yp_cl true w2 c2).2.1 + sl ≤ e.2.1; omega
end ZKR
