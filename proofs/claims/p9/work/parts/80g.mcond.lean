/-! The reference's reader of conditions goes as the machine goes. -/
def yk_v : zWT → (Int → Int) → Int → Prop
  | [], _, k => k = 0
  | s :: w, W, k => W (k - 1) = 1048576 * s.1 + s.2 ∧ (10 ≤ s.1 ∧ s.1 ≤ 13) ∧ (0 ≤ s.2 ∧ s.2 < 200) ∧ yk_v w W (k - 1)
def yk_nn : zWT → Int
  | [] => 0
  | s :: w => (if s.1 = 10 then 1 else 0) + yk_nn w
def yk_no : zWT → Int
  | [] => 0
  | s :: w => (if s.1 = 10 ∨ s.1 = 13 then 1 else 0) + yk_no w
theorem yk_no_le : ∀ (w : zWT), yk_no w ≤ w.length
  | [] => Int.le_refl _
  | s :: w => by
    have := yk_no_le w
    show (if s.1 = 10 ∨ s.1 = 13 then 1 else 0) + yk_no w ≤ ((w.length + 1 : Nat) : Int)
    split <;> omega
def yk_j (w : zWT) (c : zCD) : Prop := ∀ s ∈ w, s.1 = 11 ∨ s.1 = 12 → s.2 < c.1
theorem yk_v_le {W : Int → Int} : ∀ {w : zWT} {k : Int}, yk_v w W k → k = w.length
  | [], k, h => h
  | s :: w, k, h => by
    have := yk_v_le (w := w) h.2.2.2
    show k = ((w.length + 1 : Nat) : Int)
    omega
theorem yk_v_up {W W2 : Int → Int} : ∀ {w : zWT} {k : Int}, yk_v w W k → (∀ j, j < k → W2 j = W j) → yk_v w W2 k
  | [], _, h, _ => h
  | s :: w, k, h, q => ⟨(q (k - 1) (by omega)).trans h.1, h.2.1, h.2.2.1, yk_v_up h.2.2.2 fun j hj => q j (by omega)⟩
theorem yk_nn0 : ∀ (w : zWT), 0 ≤ yk_nn w
  | [] => Int.le_refl _
  | s :: w => by
    have := yk_nn0 w
    show 0 ≤ (if s.1 = 10 then 1 else 0) + yk_nn w
    split <;> omega
theorem yk_no0 : ∀ (w : zWT), 0 ≤ yk_no w
  | [] => Int.le_refl _
  | s :: w => by
    have := yk_no0 w
    show 0 ≤ (if s.1 = 10 ∨ s.1 = 13 then 1 else 0) + yk_no w
    split <;> omega
def yk_bt : zWT → Prop
  | [] => False
  | s :: w => (w = [] ∧ s.1 = 13) ∨ yk_bt w
theorem yk_bt_la {all : Bool} : ∀ (w : zWT) (c : zCD), yk_bt w → yk_bt (yp_la all w c).1
  | [], _, h => h
  | s :: w, c, h => by
    rw [yp_la_c]
    split
    · rename_i q
      rcases h with ⟨_, h⟩ | h
      · exfalso
        rcases q with q | ⟨_, q⟩ <;> omega
      · exact yk_bt_la w _ h
    · exact h
def yk_cst (len : Int) (w : zWT) (c : zCD) (k p o m : Int) (W D : Int → Int) : Prop :=
  yk_v w W k ∧ yk_c c m D ∧ yk_j w c ∧ o = yk_no w ∧ (0 ≤ p ∧ p ≤ len) ∧ k ≤ p ∧ c.1 + yk_nn w ≤ p ∧ yk_bt w
section ZKC
variable {T M W : Int → Int} {len : Int}
theorem yk_top {s : Int × Int} {w : zWT} {k : Int} (h : yk_v (s :: w) W k) (k2 : k ≤ 220) : zf_M_waitTop k W = some s.1 := by
  have hk := yk_v_le h
  have hk : k = ((w.length + 1 : Nat) : Int) := hk
  rw [ze_waitTop (by omega) k2, (yk_div (W := W) (k := k - 1) (s := s.1) (x := s.2) h.1 (by have := h.2.1; omega) (by have := h.2.1; omega) h.2.2.1.1 (by have := h.2.2.1; omega)).1]
theorem yk_hd {w : zWT} {k : Int} (h : yk_v w W k) (k2 : k ≤ 220) : ∃ t, zf_M_waitTop k W = some t ∧ (t = 10 ↔ yp_hd w = 10) ∧ (t = 11 ↔ yp_hd w = 11) ∧ (t = 12 ↔ yp_hd w = 12) := by
  cases w with
  | nil =>
    have h : k = 0 := h
    subst h
    exact ⟨-1, ze_waitTop0, by decide, by decide, by decide⟩
  | cons s w => exact ⟨s.1, yk_top h k2, Iff.rfl, Iff.rfl, Iff.rfl⟩
theorem yk_base {w : zWT} {k : Int} (h : yk_v w W k) : yk_b k W := by
  cases w with
  | nil => exact Or.inl h
  | cons s w =>
    have hk := yk_v_le h
    have hk : k = ((w.length + 1 : Nat) : Int) := hk
    refine Or.inr ⟨by omega, ?_⟩
    rw [(yk_div (W := W) (k := k - 1) (s := s.1) (x := s.2) h.1 (by have := h.2.1; omega) (by have := h.2.1; omega) h.2.2.1.1 (by have := h.2.2.1; omega)).1]
    have := h.2.1
    omega
theorem yk_c_ln {c : zCD} {m j : Int} {D : Int → Int} (h : yk_c c m D) (j1 : 0 ≤ j) (j2 : j < c.1) (hc : c.1 < 1048576) : yk_c (yp_ln j c) m (zv_up D j (1048576 * zd_op (c.2.1 j) + m)) := by
  obtain ⟨⟨e, c0⟩, h⟩ := h
  subst e
  refine ⟨⟨rfl, c0⟩, fun i i1 i2 => ?_⟩
  have i2 : i < c.1 := i2
  show zv_up D j _ i = 1048576 * zd_op (c.2.1 i) + zv_up c.2.2 j c.1 i ∧ (0 ≤ c.2.1 i ∧ c.2.1 i ≤ 12) ∧ 0 ≤ zv_up c.2.2 j c.1 i ∧ zv_up c.2.2 j c.1 i < 1048576
  by_cases ei : i = j
  · subst ei
    rw [zv_up_s, zv_up_s]
    exact ⟨rfl, (h i i1 i2).2.1, c0, hc⟩
  · rw [zv_up_n ei, zv_up_n ei]
    exact h i i1 i2
theorem yp_la_1 {all : Bool} : ∀ (w : zWT) (c : zCD), (yp_la all w c).2.1 = c.1 ∧ yk_nn (yp_la all w c).1 = yk_nn w ∧ yk_no (yp_la all w c).1 = yk_no w ∧ (yp_la all w c).1.length ≤ w.length
  | [], c => ⟨rfl, rfl, rfl, Nat.le_refl _⟩
  | s :: w, c => by
    rw [yp_la_c]
    split
    · rename_i h
      obtain ⟨a, b, d, e⟩ := yp_la_1 (all := all) w (yp_ln s.2 c)
      refine ⟨a, ?_, ?_, Nat.le_succ_of_le e⟩
      · rw [b]
        show yk_nn w = (if s.1 = 10 then 1 else 0) + yk_nn w
        rw [if_neg (by rcases h with h | ⟨_, h⟩ <;> omega)]; omega
      · rw [d]
        show yk_no w = (if s.1 = 10 ∨ s.1 = 13 then 1 else 0) + yk_no w
        rw [if_neg (by rcases h with h | ⟨_, h⟩ <;> omega)]; omega
    · exact ⟨rfl, rfl, rfl, Nat.le_refl _⟩
theorem zl_w20 {q : Int} (h1 : 0 ≤ q) (h2 : q ≤ 12) : zi_w (1048576 * q) = 1048576 * q := zi_w_id (by omega) (by omega)
theorem zl_w21 {q m : Int} (h1 : 0 ≤ q) (h2 : q ≤ 12) (m1 : 0 ≤ m) (m2 : m ≤ 220) : zi_w (1048576 * q + m) = 1048576 * q + m := zi_w_id (by omega) (by omega)
theorem zd_op_in {k : Int} (h1 : 0 ≤ k) (h2 : k ≤ 12) : 0 ≤ zd_op k ∧ zd_op k ≤ 12 := by
  have h : ∀ n : Nat, n < 13 → 0 ≤ zd_op (n : Int) ∧ zd_op (n : Int) ≤ 12 := by decide
  have := h k.toNat (by omega)
  rwa [show ((k.toNat : Nat) : Int) = k by omega] at this
theorem yk_lands {all : Bool} {a : Int} (ha : (a = 0 ∧ all = false) ∨ (a = 1 ∧ all = true)) : ∀ (w : zWT) (c : zCD) (k m : Int) (D : Int → Int) (n : Nat), yk_v w W k → k ≤ 220 → yk_c c m D → yk_j w c → c.1 ≤ 220 → w.length < n →
    zh_ok (zf_M_lands_l0 a m W n k D) (fun t => yk_v (yp_la all w c).1 W t.1 ∧ yk_c (yp_la all w c).2 m t.2 ∧ yk_j (yp_la all w c).1 (yp_la all w c).2) := by
  intro w
  induction w with
  | nil =>
    intro c k m D n hw k2 hc hj hl hn
    obtain ⟨n, rfl⟩ : ∃ q, n = q + 1 := ⟨n - 1, by omega⟩
    have hk : k = 0 := hw
    show zh_ok (zf_M_lands_l0_b a m W (zf_M_lands_l0 a m W n) k D) _
    unfold zf_M_lands_l0_b
    subst hk
    rw [ze_waitTop0, zl_b, if_neg (by decide)]
    by_cases h0 : a = 0
    · rw [if_pos h0]; exact zh_ret ⟨hw, hc, hj⟩
    · rw [if_neg h0, zl_b, if_neg (by decide)]; exact zh_ret ⟨hw, hc, hj⟩
  | cons s w ih =>
    intro c k m D n hw k2 hc hj hl hn
    obtain ⟨n, rfl⟩ : ∃ q, n = q + 1 := ⟨n - 1, by omega⟩
    have hk := yk_v_le hw
    have hk : k = ((w.length + 1 : Nat) : Int) := hk
    have hn : w.length + 1 < n + 1 := hn
    have top := yk_top hw k2
    obtain ⟨w1, w2, w3, w4⟩ := id hw
    obtain ⟨me, m0⟩ := hc.1
    show zh_ok (zf_M_lands_l0_b a m W (zf_M_lands_l0 a m W n) k D) _
    unfold zf_M_lands_l0_b
    rw [top, zl_b, zi_w_id (x := k - 1) (by omega) (by omega)]
    obtain ⟨d1, d2⟩ := yk_div (W := W) (k := k - 1) (s := s.1) (x := s.2) w1 (by omega) (by omega) w3.1 (by omega)
    have go : s.1 = 11 ∨ s.1 = 12 → yp_la all (s :: w) c = yp_la all w (yp_ln s.2 c) → zh_ok (cond (zi_ix (k - 1) 220) (cond (zi_ix (zi_rem (W (k - 1)) 1048576) 220) (zf_M_lands_l0 a m W n (k - 1) (zv_up D (zi_rem (W (k - 1)) 1048576) (zi_w ((zi_w (1048576 * (zi_div (D (zi_rem (W (k - 1)) 1048576)) 1048576))) + m)))) none) none) (fun t => yk_v (yp_la all (s :: w) c).1 W t.1 ∧ yk_c (yp_la all (s :: w) c).2 m t.2 ∧ yk_j (yp_la all (s :: w) c).1 (yp_la all (s :: w) c).2) := by
      intro hs e
      have u3 : 0 ≤ k - 1 ∧ k - 1 < ((220 : Nat) : Int) := by omega
      have u4 : 0 ≤ s.2 ∧ s.2 < ((220 : Nat) : Int) := by omega
      have u5 : k - 1 ≤ 220 := by omega
      have u6 : c.1 < 1048576 := by omega
      have u7 : w.length < n := by omega
      have j2 := hj s List.mem_cons_self hs
      obtain ⟨q1, q2, q3, q4⟩ := hc.2 s.2 w3.1 j2
      have q5 := (zd_cd q1 q2.1 q2.2 q3 q4).1
      have q6 := zd_op_in q2.1 q2.2
      have u1 := zl_w20 q6.1 q6.2
      have u2 := zl_w21 q6.1 q6.2 (m := m) (by rw [me]; exact m0) (by rw [me]; exact hl)
      rw [zl_ci u3.1 u3.2, d2, zl_ci u4.1 u4.2, q5, u1, u2, e]
      exact ih (yp_ln s.2 c) (k - 1) m _ n w4 u5 (yk_c_ln hc w3.1 j2 u6) (fun x hx h => hj x (List.mem_cons_of_mem _ hx) h) hl u7
    by_cases h11 : s.1 = 11
    · rw [if_pos h11]
      exact go (Or.inl h11) (by rw [yp_la_c, if_pos (Or.inl h11)])
    · rw [if_neg h11]
      rcases ha with ⟨a0, ae⟩ | ⟨a1, ae⟩
      · rw [if_pos a0]
        have e : yp_la all (s :: w) c = (s :: w, c) := by
          rw [yp_la_c, if_neg]
          rw [ae]
          intro h
          rcases h with h | ⟨h, _⟩
          · exact h11 h
          · cases h
        rw [e]
        exact zh_ret ⟨hw, hc, hj⟩
      · rw [if_neg (by omega), zl_b]
        by_cases h12 : s.1 = 12
        · rw [if_pos h12]
          exact go (Or.inr h12) (by rw [yp_la_c, if_pos (Or.inr ⟨ae, h12⟩)])
        · rw [if_neg h12]
          have e : yp_la all (s :: w) c = (s :: w, c) := by
            rw [yp_la_c, if_neg]
            intro h
            rcases h with h | ⟨_, h⟩
            · exact h11 h
            · exact h12 h
          rw [e]
          exact zh_ret ⟨hw, hc, hj⟩
theorem yk_ends {p : Int} {r : Int ⊕ (Int × zCD)} (hl : len ≤ 200) : ∀ (N : Nat) (w : zWT) (o : Int) (c : zCD) (k m : Int) (D : Int → Int) (n : Nat), yp_C T len N false w o p c = some r → yk_cst len w c k p o m W D → N < n →
    zh_ok (zf_M_endsPiece_l0 W n k m o D) (fun t => ∃ N' w' c', N' ≤ N ∧ yp_C T len N' false w' t.2.2.1 p c' = some r ∧ yp_hd w' ≠ 10 ∧ yk_cst len w' c' t.1 p t.2.2.1 t.2.1 W t.2.2.2 ∧ t.2.2.1 ≤ o) := by
  intro N
  induction N with
  | zero => intro w o c k m D n h; exact zl_ns h
  | succ N ih =>
    intro w o c k m D n h hs hn
    obtain ⟨n, rfl⟩ : ∃ q, n = q + 1 := ⟨n - 1, by omega⟩
    have hs0 := hs
    obtain ⟨s1, s2, s3, s4, ⟨s5, s6⟩, s7, s8, s9⟩ := hs
    obtain ⟨t, ht, t10, -⟩ := yk_hd s1 (by omega)
    obtain ⟨me, m0⟩ := s2.1
    show zh_ok (zf_M_endsPiece_l0_b W (zf_M_endsPiece_l0 W n) k m o D) _
    unfold zf_M_endsPiece_l0_b
    rw [ht, zl_b]
    by_cases h10 : yp_hd w = 10
    · rw [if_pos (t10.mpr h10)]
      rw [yp_C_f, if_pos h10] at h
      cases w with
      | nil => cases h10
      | cons s w =>
        have h10 : s.1 = 10 := h10
        have hk := yk_v_le s1
        have hk : k = ((w.length + 1 : Nat) : Int) := hk
        have s4 : o = (if s.1 = 10 ∨ s.1 = 13 then 1 else 0) + yk_no w := s4
        have s8 : c.1 + ((if s.1 = 10 then 1 else 0) + yk_nn w) ≤ p := s8
        rw [if_pos (Or.inl h10)] at s4
        rw [if_pos h10] at s8
        have := yk_nn0 w
        have := yk_no0 w
        have hno := yk_no_le w
        rw [ze_notes (by omega) (by omega) (by decide) (by decide) (by decide) (by decide), zl_b, zi_w_id (x := k - 1) (by omega) (by omega), zi_w_id (x := o - 1) (by omega) (by omega)]
        have hc2 := yk_c_em (kk := 2) (v := 0) s2 (by decide) (by decide) (by decide) (by decide)
        refine zh_mono (ih w (o - 1) (yp_em 2 0 c) (k - 1) (m + 1) _ n h ⟨s1.2.2.2, hc2, fun x hx hh => ?_, by omega, ⟨s5, s6⟩, by omega, ?_, ?_⟩ (by omega)) fun t ⟨N', w', c', a1, a2, a3, a4, a5⟩ => ⟨N', w', c', by omega, a2, a3, a4, by omega⟩
        · have := s3 x (List.mem_cons_of_mem _ hx) hh
          show x.2 < c.1 + 1; omega
        · show c.1 + 1 + yk_nn w ≤ p; omega
        · rcases s9 with ⟨_, h⟩ | h
          · omega
          · exact h
    · rw [if_neg (fun e => h10 (t10.mp e))]
      exact zh_ret ⟨N + 1, w, c, Nat.le_refl _, h, h10, hs0, Int.le_refl _⟩
end ZKC
