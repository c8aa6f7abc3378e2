/-! figureOf: alike. -/
section YFG
variable {G : Int → Int} {a : Nat}
theorem yg_E_m1 {p q : Nat} : yg_E G (-1) (-1) p q = zb (G p) q := by
  unfold yg_E
  rw [decide_eq_false (show ¬ ((p : Int) = -1 ∧ (q : Int) = -1) by omega)]
  simp
theorem yg_re_cg {E F : Nat → Nat → Bool} (e : ∀ p q, p < 24 → q < 24 → E p q = F p q) {s : Int} (h : yg_re E a s) : yg_re F a s := by
  obtain ⟨h1, h2, h3, h4⟩ := h
  exact ⟨h1, h2, fun p q hp hq sp he => h3 p q hp hq sp (by rw [e p q hp hq]; exact he), fun S sa sc => h4 S sa fun p q hp hq sp he => sc p q hp hq sp (by rw [← e p q hp hq]; exact he)⟩
theorem ym_fig1 (hG : ∀ j : Nat, j < 24 → z24 (G j)) {c : Int} (hc : z24 c) : ∀ (d : Nat) (j : Nat) (x : Int) (n : Nat), j + d = 24 → d < n → z24 x → ∃ s, zf_M_figureOf_l1 c G n x (j : Int) = some s ∧ z24 s ∧ ∀ q, zb s q = true ↔ zb x q = true ∨ ∃ p, j ≤ p ∧ p < 24 ∧ zb c p = true ∧ zb (G p) q = true := by
  intro d
  induction d with
  | zero =>
    intro j x n e hn hx
    obtain ⟨n, rfl⟩ : ∃ q, n = q + 1 := ⟨n - 1, by omega⟩
    refine ⟨x, ?_, hx, fun q => ⟨.inl, fun h => ?_⟩⟩
    · show zf_M_figureOf_l1_b c G (zf_M_figureOf_l1 c G n) x (j : Int) = _
      unfold zf_M_figureOf_l1_b
      rw [if_neg (by omega)]
    · rcases h with h | ⟨p, p1, p2, _⟩
      · exact h
      · omega
  | succ d ih =>
    intro j x n e hn hx
    obtain ⟨n, rfl⟩ : ∃ q, n = q + 1 := ⟨n - 1, by omega⟩
    show ∃ s, zf_M_figureOf_l1_b c G (zf_M_figureOf_l1 c G n) x (j : Int) = _ ∧ _
    unfold zf_M_figureOf_l1_b
    rw [if_pos (by omega), ze_M_has hc.1 (by have := hc.2; omega) (by omega) (by omega), zl_b, zb_tb2 hc.1 (by have := hc.2; omega), Int.toNat_natCast, zi_w_id (x := (j : Int) + 1) (by omega) (by omega)]
    by_cases q : zb c j = true
    · rw [if_pos q, if_neg (by decide), zl_ci (by omega) (by omega)]
      obtain ⟨s, e1, e2, e3⟩ := ih (j + 1) (zi_or x (G j)) n (by omega) (by omega) (z24_or hx (hG j (by omega)))
      refine ⟨s, e1, e2, fun b => ?_⟩
      rw [e3, zb_or, Bool.or_eq_true]
      constructor
      · rintro ((h | h) | ⟨p, p1, p2, h⟩)
        · exact .inl h
        · exact .inr ⟨j, Nat.le_refl _, by omega, q, h⟩
        · exact .inr ⟨p, by omega, p2, h⟩
      · rintro (h | ⟨p, p1, p2, h1, h2⟩)
        · exact .inl (.inl h)
        · by_cases ep : p = j
          · subst ep; exact .inl (.inr h2)
          · exact .inr ⟨p, by omega, p2, h1, h2⟩
    · rw [if_neg q, if_pos rfl]
      obtain ⟨s, e1, e2, e3⟩ := ih (j + 1) x n (by omega) (by omega) hx
      refine ⟨s, e1, e2, fun b => ?_⟩
      rw [e3]
      constructor
      · rintro (h | ⟨p, p1, p2, h⟩)
        · exact .inl h
        · exact .inr ⟨p, by omega, p2, h⟩
      · rintro (h | ⟨p, p1, p2, h1, h2⟩)
        · exact .inl h
        · by_cases ep : p = j
          · subst ep; exact absurd h1 q
          · exact .inr ⟨p, by omega, p2, h1, h2⟩
theorem ym_fig0 (hG : ∀ j : Nat, j < 24 → z24 (G j)) : ∀ (d : Nat) (c pv : Int) (n : Nat), 24 - yn_n (zb pv) 24 ≤ d → d < n → z24 c → z24 pv → (∀ j, zb pv j = true → zb c j = true) → (∀ p q, p < 24 → q < 24 → zb pv p = true → zb (G p) q = true → zb c q = true) → zb c a = true → (∀ S : Nat → Bool, S a = true → yg_sh (yg_E G (-1) (-1)) S → ∀ j, j < 24 → zb c j = true → S j = true) →
    ∃ s, zf_M_figureOf_l0 G n c pv = some s ∧ yg_re (yg_E G (-1) (-1)) a s := by
  intro d
  induction d with
  | zero =>
    intro c pv n e hn hc hp sub st ha hm
    obtain ⟨n, rfl⟩ : ∃ q, n = q + 1 := ⟨n - 1, by omega⟩
    have al := yn_all 24 (f := zb pv) (by have := yn_in (f := zb pv) 24; omega)
    have ep : pv = c := z24_ext hp hc fun j hj => by rw [al j hj, sub j (al j hj)]
    refine ⟨c, ?_, hc, ha, fun p q hp2 hq2 sp he => st p q hp2 hq2 (al p hp2) (by rw [← yg_E_m1]; exact he), hm⟩
    show zf_M_figureOf_l0_b G (zf_M_figureOf_l0 G n) c pv = _
    unfold zf_M_figureOf_l0_b
    rw [if_pos ep]
  | succ d ih =>
    intro c pv n e hn hc hp sub st ha hm
    obtain ⟨n, rfl⟩ : ∃ q, n = q + 1 := ⟨n - 1, by omega⟩
    show ∃ s, zf_M_figureOf_l0_b G (zf_M_figureOf_l0 G n) c pv = _ ∧ _
    unfold zf_M_figureOf_l0_b
    by_cases q : pv = c
    · rw [if_pos q]
      refine ⟨c, rfl, hc, ha, fun p b hp2 hq2 sp he => st p b hp2 hq2 (by rw [q]; exact sp) (by rw [← yg_E_m1]; exact he), hm⟩
    rw [if_neg q]
    obtain ⟨s, e1, e2, e3⟩ := ym_fig1 hG hc 24 0 c zi_fu rfl (by decide) hc
    rw [show zf_M_figureOf_l1 c G zi_fu c 0 = _ from e1, zl_b]
    have hlt : yn_n (zb pv) 24 + 1 ≤ yn_n (zb c) 24 := by
      have hex : ∃ k, k < 24 ∧ ¬ zb pv k = true ∧ zb c k = true := by
        by_cases w : ∃ k, k < 24 ∧ ¬ zb pv k = true ∧ zb c k = true
        · exact w
        · refine absurd (z24_ext hp hc fun j hj => ?_) q
          cases x : zb pv j <;> cases y : zb c j
          · rfl
          · exact absurd ⟨j, hj, by rw [x]; decide, y⟩ w
          · rw [sub j x] at y; cases y
          · rfl
      obtain ⟨k, k1, k2, k3⟩ := hex
      exact yn_lt k2 k3 24 k1 fun j _ h => sub j h
    exact ih s c n (by omega) (by omega) e2 hc (fun j h => (e3 j).mpr (.inl h)) (fun p b hp2 _ sp he => (e3 b).mpr (.inr ⟨p, by omega, hp2, sp, he⟩)) ((e3 a).mpr (.inl ha)) (fun S sa sc j hj h => by
      rcases (e3 j).mp h with h | ⟨p, _, p2, h1, h2⟩
      · exact hm S sa sc j hj h
      · exact sc p j p2 hj (hm S sa sc p p2 h1) (by rw [yg_E_m1]; exact h2))
theorem ym_figureOf (hG : ∀ j : Nat, j < 24 → z24 (G j)) {x : Int} (x1 : 0 ≤ x) (x2 : x < 24) : ∃ s, zf_M_figureOf x G = some s ∧ yg_re (yg_E G (-1) (-1)) x.toNat s := by
  have bx : ∀ j, zb (zi_shl 1 x) j = decide (j = x.toNat) := fun j => zb_shl x1 (by omega)
  have z0 : yn_n (zb 0) 24 = 0 := by decide +kernel
  obtain ⟨s, e, h⟩ := ym_fig0 (a := x.toNat) hG 24 (zi_shl 1 x) 0 zi_fu (by omega) (by decide) (z24_shl x1 x2) z24_0 (fun j h => by rw [zb_0] at h; cases h) (fun p q _ _ h _ => by rw [zb_0] at h; cases h) (by rw [bx]; exact decide_eq_true rfl) (fun S sa _ j _ hj => by
    rw [bx, decide_eq_true_eq] at hj
    rw [hj]; exact sa)
  refine ⟨s, ?_, h⟩
  unfold zf_M_figureOf
  rw [e, zl_b]
/-- one figure, both ways -/
theorem yo_fig (hG : ∀ j : Nat, j < 24 → z24 (G j)) {x : Int} (x1 : 0 ≤ x) (x2 : x < 24) : ∃ s, zf_View_reach x (-1) (-1) G = some s ∧ zf_M_figureOf x G = some s ∧ yg_re (yg_E G (-1) (-1)) x.toNat s := by
  obtain ⟨s, e1, h1⟩ := yx_reach (u := -1) (v := -1) hG (.inl ⟨rfl, rfl⟩) x1 x2
  obtain ⟨s2, e2, h2⟩ := ym_figureOf hG x1 x2
  have := yg_re_eq h1 h2
  subst this
  exact ⟨s, e1, e2, h1⟩
end YFG
