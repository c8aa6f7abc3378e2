/-! sky and figure: alike on both sides. -/
section YSY
variable {G H : Int → Int}
theorem yv_il_sym {s : Int} {D : Nat → Nat → Bool} (h : yv_il s D G) : ∀ p q : Nat, p < 24 → q < 24 → zb (G p) q = true → zb (G q) p = true := fun p q hp hq hb => by
  rw [(h p hp).2, Bool.and_eq_true] at hb
  rw [(h q hq).2, Bool.and_eq_true]
  refine ⟨decide_eq_true hp, ?_⟩
  have := hb.2
  unfold yv_lk at this ⊢
  rw [Nat.min_comm q p, Nat.max_comm q p, Bool.and_comm (zb s q), ← this]
  congr 2
  rw [decide_eq_decide]
  exact ⟨fun h => Ne.symm h, fun h => Ne.symm h⟩
theorem yo_hold0 (hG : ∀ j : Nat, j < 24 → z24 (G j)) (sym : ∀ p q : Nat, p < 24 → q < 24 → zb (G p) q = true → zb (G q) p = true) : ∀ (d : Nat) (i c : Int) (H : Int → Int) (n : Nat), i + d = 24 → 0 ≤ i → d < n → 0 ≤ c → c ≤ 24 * i → (∀ p : Nat, p < 24 → G p = H p) →
    ∃ c' H', zf_View_countHolding_l0 G n c i = some c' ∧ zf_M_holding_l0 n c i H = some (c', H') := by
  intro d
  induction d with
  | zero =>
    intro i c H n e i0 hn c0 c1 eh
    obtain ⟨n, rfl⟩ : ∃ q, n = q + 1 := ⟨n - 1, by omega⟩
    refine ⟨c, H, ?_, ?_⟩
    · show zf_View_countHolding_l0_b G (zf_View_countHolding_l0 G n) c i = _
      unfold zf_View_countHolding_l0_b
      rw [if_neg (by omega)]
    · show zf_M_holding_l0_b (zf_M_holding_l0 n) c i H = _
      unfold zf_M_holding_l0_b
      rw [if_neg (by omega)]
  | succ d ih =>
    intro i c H n e i0 hn c0 c1 eh
    obtain ⟨n, rfl⟩ : ∃ q, n = q + 1 := ⟨n - 1, by omega⟩
    show ∃ c' H', zf_View_countHolding_l0_b G (zf_View_countHolding_l0 G n) c i = _ ∧ zf_M_holding_l0_b (zf_M_holding_l0 n) c i H = _
    unfold zf_View_countHolding_l0_b zf_M_holding_l0_b
    rw [if_pos (show i < 24 by omega), if_pos (show i < 24 by omega), zi_w_id (x := i + 1) (by omega) (by omega)]
    have hf : (24 - (i + 1)).toNat < zi_fu := Nat.lt_of_le_of_lt (show (24 - (i + 1)).toNat ≤ 24 by omega) (by decide)
    obtain ⟨c2, H2, e1, e2, ⟨b1, b2⟩, eh2⟩ := yo_hold1 hG sym i0 (by omega) (24 - (i + 1)).toNat (i + 1) c H zi_fu (by omega) (by omega) hf c0 (by omega) eh
    rw [e1, e2, zl_b, zl_b]
    exact ih (i + 1) c2 H2 n (by omega) (by omega) (by omega) b1 (by omega) eh2
theorem yo_hold (hG : ∀ j : Nat, j < 24 → z24 (G j)) (sym : ∀ p q : Nat, p < 24 → q < 24 → zb (G p) q = true → zb (G q) p = true) (e : ∀ p : Nat, p < 24 → G p = H p) : ∃ c H', zf_View_countHolding G = some c ∧ zf_M_holding H = some (c, H') := by
  obtain ⟨c, H', e1, e2⟩ := yo_hold0 hG sym 24 0 0 H zi_fu (by decide) (by decide) (by decide) (by decide) (by decide) e
  refine ⟨c, H', ?_, ?_⟩
  · unfold zf_View_countHolding
    rw [e1]; rfl
  · unfold zf_M_holding
    rw [e2]; rfl
end YSY
section YSZ
variable {L : zLW} {K V kd fr hf to C mk mf mh mt : Int → Int} {nc tS tL sP lP mc : Int} {t h u cl sc sr ch : Int} {co ro br wc wr m : Int → Int}
theorem yo_figure (R : yl_R L K V nc tS tL sP lP kd fr hf to mc C mk mf mh mt) (k : yk_sky t h u cl sc sr ch co ro br wc wr m) {x y a f4 f5 f6 f9 f14 f16 f1 : Int} {g0 g1 g9 g11 g12 g2 g6 g7 : Int → Int} :
    ∃ r f4' f5' f6' f9' f14' f16' g0' g1' g9' g11' g12' f1' g2' g6' g7', zf_X_figure x y a t f4 f5 f6 h u f9 sc sr cl tS f14 nc f16 sP tL lP g0 g1 co ro br kd hf to K g9 V g11 g12 = some (r, f4', f5', f6', f9', f14', f16', g0', g1', g9', g11', g12') ∧ zf_M_figure x y a mc f1 m mk g2 mh mt C g6 g7 = some (r, f1', g2', g6', g7') := by
  obtain ⟨⟨ht, k126⟩, -⟩ := id k
  have tin : 0 ≤ t ∧ t ≤ 2147483647 := ⟨ht.1, by have := ht.2; omega⟩
  unfold zf_X_figure zf_M_figure
  rw [ze_X_isPlace, ze_M_isPlace, zl_b, zl_b]
  by_cases q : zs_pl x y = 0
  · rw [if_pos q, if_pos q]
    exact ⟨-1, f4, f5, f6, f9, f14, f16, g0, g1, g9, g11, g12, f1, g2, g6, g7, rfl, rfl⟩
  rw [if_neg q, if_neg q, ze_Sky_hasStar tin.1 tin.2, ze_M_isTold (by rw [k126]; exact tin.1) (by rw [k126]; exact tin.2), k126, zl_b, zl_b]
  obtain ⟨x1, x2, y1, y2⟩ := zs_pl_ne q
  by_cases qa : zs_has 24 t a = 0
  · rw [if_pos qa, if_pos qa]
    exact ⟨-1, f4, f5, f6, f9, f14, f16, g0, g1, g9, g11, g12, f1, g2, g6, g7, rfl, rfl⟩
  rw [if_neg qa, if_neg qa]
  obtain ⟨a1, a2, -⟩ := zs_has_ne qa
  obtain ⟨f3', s', f14', f16', g0', g1', g9', J, g12', e1, i1, l1⟩ := yx_lad (f3 := f4) (f4 := f5) (f5 := f6) (f8 := f9) (f14 := f14) (f16 := f16) (g0 := g0) (g1 := g1) (g9 := g9) (g11 := g11) (g12 := g12) R k x1 (by omega : x ≤ 23) y1 (by omega : y ≤ 11)
  obtain ⟨s2, g2', g6', J2, e2, i2, l2⟩ := ym_looks (f1 := f1) (g := g2) (S := g6) (J := g7) R k x1 (by omega) y1 (by omega)
  rw [e1, zl_b, zi_w_id (x := 24 * y) (by omega) (by omega), zi_w_id (x := 24 * y + x) (by omega) (by omega), e2, zl_b]
  have es := yv_is_eq i1 i2
  subst es
  have hG : ∀ j : Nat, j < 24 → z24 (J j) := fun j hj => (l1 j hj).1
  have ej : ∀ j : Nat, j < 24 → J j = J2 j := fun j hj => yv_il_eq l1 l2 j (by omega) (by omega)
  dsimp only
  rw [ze_mh i1.1 a1 a2, zl_b, zb_bit a1 (by omega)]
  by_cases qs : zb s' a.toNat = true
  · rw [if_pos qs, if_neg (show ¬ (1 : Int) = 0 by decide), if_neg (show ¬ (1 : Int) = 0 by decide)]
    obtain ⟨r, e3, e4, -⟩ := yo_fig2 hG ej a1 a2
    rw [e3, e4, zl_b, zl_b]
    exact ⟨_, _, _, _, _, _, _, _, _, _, _, _, _, _, _, _, rfl, rfl⟩
  · rw [if_neg qs, if_pos rfl, if_pos rfl]
    exact ⟨_, _, _, _, _, _, _, _, _, _, _, _, _, _, _, _, rfl, rfl⟩
end YSZ
