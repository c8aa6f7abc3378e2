/-! fastest: the same answer. -/
section YLZ
theorem ze_lowE {x : Int} (hx : z24 x) (h0 : x ≠ 0) : ∃ r : Nat, r < 24 ∧ zb x r = true ∧ (∀ j, j < r → zb x j = false) ∧ zf_X_lowestOf x = some (r : Int) := by
  have hex : ∃ j, j < 24 ∧ zb x j = true := by
    by_cases q : ∃ j, j < 24 ∧ zb x j = true
    · exact q
    · refine absurd ((z24_z hx).mpr fun j hj => ?_) h0
      cases c : zb x j
      · rfl
      · exact absurd ⟨j, hj, c⟩ q
  obtain ⟨r, r1, r2, r3⟩ := yn_low 24 hex
  have hand : zi_and x (zi_w (-x)) = zi_shl 1 r := by
    refine z24_ext (z24_and hx) (z24_shl (by omega) (by omega)) fun j hj => ?_
    rw [zb_and, zb_neg hx.1 (by have := hx.2; omega) (by omega), zb_shl (by omega) (by omega), Int.toNat_natCast]
    by_cases e : j = r
    · subst e
      rw [r2, decide_eq_true (rfl : j = j)]
      have : ¬ ∃ i, i < j ∧ zb x i = true := fun ⟨i, a, b⟩ => by rw [r3 i a] at b; cases b
      rw [decide_eq_false this]; rfl
    · rw [decide_eq_false e]
      by_cases c : j < r
      · rw [r3 j c, Bool.false_and]
      · rw [decide_eq_true (⟨r, by omega, r2⟩ : ∃ i, i < j ∧ zb x i = true)]
        cases zb x j <;> rfl
  refine ⟨r, r1, r2, r3, ?_⟩
  unfold zf_X_lowestOf
  have hd : ∀ k : Nat, k < 24 → zf_Integer_bitCount (zi_w (zi_shl 1 k - 1)) = some (k : Int) := by
    have hd2 : ∀ k : Nat, k < 24 → (0 ≤ zi_w (zi_shl 1 k - 1) ∧ zi_w (zi_shl 1 k - 1) < 16777216) ∧ zs_sum (zi_w (zi_shl 1 k - 1)) 24 = k := by decide +kernel
    intro k hk
    obtain ⟨⟨a, b⟩, c⟩ := hd2 k hk
    rw [ze_bitCount a b, c]
  rw [hand, hd r r1, zl_b]
variable {L : zLW} {K V kd fr hf to C mk mf mh mt : Int → Int} {nc tS tL sP lP mc : Int} {t h u cl sc sr ch ts p i s : Int} {co ro br wc wr m gp gl : Int → Int} {hs us : Nat → Int} {cs rs : Nat → Int → Int}
/-- the answer, by the places of the hours -/
def yw_fa (t w : Int) (P : Int → Nat → Int) (p0 pl : Int) (n : Nat) (r : Int) : Prop :=
  (p0 = pl ∧ ∃ i : Nat, (i < 24 ∧ zb t i = true ∧ ∀ j, j < i → zb t j = false) ∧ r = if w = 0 then 0 else (i : Int)) ∨
  (p0 ≠ pl ∧ ((∃ (k : Nat) (i : Int), yw_hit t P pl n k i ∧ r = if w = 0 then (k : Int) else i) ∨ (yw_noh t P pl n ∧ r = -2)))
theorem yw_fa_1 {w : Int} {P : Int → Nat → Int} {p0 pl : Int} {n : Nat} {r r2 : Int} (a : yw_fa t w P p0 pl n r) (b : yw_fa t w P p0 pl n r2) : r = r2 := by
  rcases a with ⟨e, i, ⟨i1, i2, i3⟩, rfl⟩ | ⟨e, a⟩
  · rcases b with ⟨-, j, ⟨j1, j2, j3⟩, rfl⟩ | ⟨e2, -⟩
    · have : i = j := by
        rcases Nat.lt_trichotomy i j with h | h | h
        · rw [j3 i h] at i2; cases i2
        · exact h
        · rw [i3 j h] at j2; cases j2
      rw [this]
    · exact absurd e e2
  · rcases b with ⟨e2, -⟩ | ⟨-, b⟩
    · exact absurd e2 e
    · rcases a with ⟨k, i, a1, rfl⟩ | ⟨a1, rfl⟩
      · rcases b with ⟨k2, i2, b1, rfl⟩ | ⟨b1, rfl⟩
        · obtain ⟨rfl, rfl⟩ := yw_hit_1 a1 b1; rfl
        · exact absurd b1 (yw_hit_no a1)
      · rcases b with ⟨k2, i2, b1, rfl⟩ | ⟨b1, rfl⟩
        · exact absurd a1 (yw_hit_no b1)
        · rfl
def yw_fbad (ts t s x y n w : Int) : Prop := zs_has 6 ts s = 0 ∨ zs_pl x y = 0 ∨ t = 0 ∨ zs_in n 1 48 = 0 ∨ zs_in w 0 1 = 0
theorem yw_askE {s x y : Int} (h1 : 0 ≤ ts) (h2 : ts ≤ 2147483647) : zh_ok (zf_X_canAskVoyage s x y ts t) fun r => (r = 0 → zs_has 6 ts s = 0 ∨ zs_pl x y = 0 ∨ t = 0) ∧ (¬ r = 0 → ¬ zs_has 6 ts s = 0 ∧ ¬ zs_pl x y = 0 ∧ ¬ t = 0) := by
  unfold zf_X_canAskVoyage
  rw [ze_Sea_hasShip h1 h2, zl_b]
  refine zh_ite (fun q => zh_ret ⟨fun _ => .inl q, fun q2 => absurd rfl q2⟩) fun q1 => ?_
  rw [ze_X_isPlace, zl_b]
  exact zh_ite (fun q => zh_ret ⟨fun _ => .inr (.inl q), fun q2 => absurd rfl q2⟩) fun q2 => zh_ite (fun q => zh_ret ⟨fun _ => .inr (.inr q), fun q2 => absurd rfl q2⟩) fun q3 => zh_ret ⟨fun q => absurd q (by decide), fun _ => ⟨q1, q2, q3⟩⟩
theorem yw_fastXE (R : yl_R L K V nc tS tL sP lP kd fr hf to mc C mk mf mh mt) (k : yk_sky t h u cl sc sr ch co ro br wc wr m) (z : yk_sea ts gp gl m) {s x y n w : Int} {f2 f4 f6 f8 f10 f12 f14 f18 f19 f20 f22 f24 f26 f27 : Int} {g1 g3 g5 g7 g9 g10 g12 g13 g18 : Int → Int} (sq : yw_sq t h u cl sc sr ch ts (zv_cpy co g1 24) (zv_cpy ro g3 24) (zv_cpy br g5 24) (zv_cpy wc g7 24) (zv_cpy wr g9 24) gl hs us cs rs) :
    zh_ok (zf_X_fastest s x y n w ts t f2 h f4 u f6 cl f8 sc f10 sr f12 ch f14 f18 f19 f20 tS f22 nc f24 sP f26 f27 co g1 ro g3 br g5 wc g7 wr g9 g10 gp g12 g13 kd hf to K g18 V gl) fun o => (yw_fbad ts t s x y n w ∧ o.1 = -1) ∨ (¬ yw_fbad ts t s x y n w ∧ yw_fa t w (fun i => yw_pos L tS cl sc sr hs us cs rs (zv_cpy br g5 24) gl (gp s) i) (gp s) (24 * y + x) n.toNat o.1) := by
  obtain ⟨⟨ht, -⟩, -⟩ := id k
  obtain ⟨⟨t1, t2, -⟩, hb⟩ := id z
  unfold zf_X_fastest
  refine zh_bind (yw_askE t1 (by omega)) fun r1 h1 => zh_ite (fun q1 => zh_ret (.inl ⟨?_, rfl⟩)) fun q1 => ?_
  · rcases h1.1 q1 with a | a | a
    · exact .inl a
    · exact .inr (.inl a)
    · exact .inr (.inr (.inl a))
  obtain ⟨b1, b2, b3⟩ := h1.2 q1
  obtain ⟨s0, s1, -⟩ := zs_has_ne b1
  obtain ⟨x0, x1, y0, y1⟩ := zs_pl_ne b2
  rw [ze_X_isWithin, zl_b]
  refine zh_ite (fun q => zh_ret (.inl ⟨.inr (.inr (.inr (.inl q))), rfl⟩)) fun q2 => ?_
  rw [ze_X_isWithin, zl_b]
  refine zh_ite (fun q => zh_ret (.inl ⟨.inr (.inr (.inr (.inr q))), rfl⟩)) fun q3 => ?_
  have hgood : ¬ yw_fbad ts t s x y n w := fun hb => by
    rcases hb with a | a | a | a | a
    · exact b1 a
    · exact b2 a
    · exact b3 a
    · exact q2 a
    · exact q3 a
  obtain ⟨n0, n1⟩ := zs_in_ne q2
  unfold zf_Sky_copyFrom
  rw [zl_b]
  dsimp only
  obtain ⟨gA, e0, h0⟩ := ze_open (f := f18) (g := g10)
  rw [e0, zl_b, ze_X_placeOf x0 x1 y0 y1, zl_b]
  have hp := hb s s0 s1
  refine zh_cond (zi_ix_of s0 s1) (zh_bind (Q := fun o => (o.1 = 1 ∧ yw_fa t w (fun i => yw_pos L tS cl sc sr hs us cs rs (zv_cpy br g5 24) gl (gp s) i) (gp s) (24 * y + x) n.toNat (if w = 0 then o.2.2.2.2.2.2.2.2.1 else o.2.2.2.2.2.2.2.2.2.1)) ∨ (o.1 = 0 ∧ yw_fa t w (fun i => yw_pos L tS cl sc sr hs us cs rs (zv_cpy br g5 24) gl (gp s) i) (gp s) (24 * y + x) n.toNat (-2))) ?_ fun r11 h11 => zh_ite (fun c => ?_) fun c => ?_)
  · by_cases hne : gp s = 24 * y + x
    · obtain ⟨r, r1, r2, r3, e9⟩ := ze_lowE ht b3
      unfold zf_Pilot_findFastest
      rw [if_pos hne, e9, zl_b]
      refine zh_ret (.inl ⟨rfl, .inl ⟨hne, r, ⟨r1, r2, r3⟩, ?_⟩⟩)
      by_cases cw : w = 0
      · rw [if_pos cw]; (try rfl)
      · rw [if_neg cw]; (try rfl)
    · refine zh_mono (yw_findFE R sq yv_ca0 hp.1 hp.2 (by omega) n1 hne) fun o ho => ?_
      rcases ho with ⟨o1, kk, i, o2, o3, o4⟩ | ⟨o1, o2⟩
      · refine .inl ⟨o1, .inr ⟨hne, .inl ⟨kk, i, o2, ?_⟩⟩⟩
        by_cases cw : w = 0
        · rw [if_pos cw, if_pos cw, o3]
        · rw [if_neg cw, if_neg cw, o4]
      · exact .inr ⟨o1, .inr ⟨hne, .inr ⟨o2, rfl⟩⟩⟩
  · rcases h11 with ⟨a, -⟩ | ⟨-, a⟩
    · omega
    · exact zh_ret (.inr ⟨hgood, a⟩)
  · rcases h11 with ⟨-, a⟩ | ⟨a, -⟩
    · refine zh_ite (fun cw => zh_ret (.inr ⟨hgood, ?_⟩)) fun cw => zh_ret (.inr ⟨hgood, ?_⟩)
      · rw [if_pos cw] at a; exact a
      · rw [if_neg cw] at a; exact a
    · exact absurd a c
/-- the ship is there already -/
theorem yw_ml1 (R : yl_R L K V nc tS tL sP lP kd fr hf to mc C mk mf mh mt) (sq : yw_sq t h u cl sc sr ch ts co ro br wc wr gl hs us cs rs) {p0 : Int} {mA : Int → Int} (hmA : ∀ m2, (∀ j, 0 ≤ j → j < 422 → m2 j = mA j) → yw_mk t cl sc sr ch ts s br wc wr gl hs us cs rs 0 p0 m2) (b126 : mA 126 = t) (s0 : 0 ≤ s) (s1 : s < 6) {n : Int} (n0 : 1 ≤ n) (n1 : n ≤ 48) (tin : 0 ≤ t ∧ t ≤ 2147483647) {m1 g S : Int → Int} :
    zh_ok (zf_M_fastest_l0 s n p0 mc mA mk mh mt C mf zi_fu 0 (-2) 0 m1 g S) fun o => o.1 = 0 ∧ ((o.2.1 = -2 ∧ ∀ i : Int, 0 ≤ i → i < 24 → ¬ zb t i.toNat = true) ∨ ∃ i : Int, (0 ≤ i ∧ i < 24 ∧ zb t i.toNat = true) ∧ (∀ j : Int, 0 ≤ j → j < i → ¬ zb t j.toNat = true) ∧ o.2.1 = i) := by
  refine zh_loop (F := fun f i (a : Int × Int × (Int → Int) × (Int → Int) × (Int → Int)) => zf_M_fastest_l0 s n p0 mc mA mk mh mt C mf f a.1 a.2.1 i a.2.2.1 a.2.2.2.1 a.2.2.2.2) (N := 24) (I := fun j a => a.1 = 0 ∧ ((a.2.1 = -2 ∧ ∀ i : Int, 0 ≤ i → i < j → ¬ zb t i.toNat = true) ∨ ∃ i : Int, (0 ≤ i ∧ i < j ∧ zb t i.toNat = true) ∧ (∀ j : Int, 0 ≤ j → j < i → ¬ zb t j.toNat = true) ∧ a.2.1 = i)) (fun f j a j0 j1 ha kk => ?_) 24 0 (0, -2, m1, g, S) zi_fu (by decide) (by decide) (by decide) (by decide) ⟨rfl, .inl ⟨rfl, fun i i0 i1 => by omega⟩⟩
  obtain ⟨a1, a2, a3, a4, a5⟩ := a
  obtain ⟨e1, ha⟩ := ha
  dsimp only at e1 ha
  subst e1
  show zh_ok (zf_M_fastest_l0_b s n p0 mc mA mk mh mt C mf (zf_M_fastest_l0 s n p0 mc mA mk mh mt C mf f) 0 a2 j a3 a4 a5) _
  unfold zf_M_fastest_l0_b
  refine zh_ite (fun hj => ?_) fun hj => zh_ret ⟨rfl, ?_⟩
  · obtain ⟨mB, e2, hB⟩ := ze_again (g0 := mA) (g := a3)
    have hmB := hmA mB hB
    have c126 : mB 126 = t := by rw [hB 126 (by decide) (by decide), b126]
    rw [e2, zl_b, ze_M_isTold (by rw [c126]; exact tin.1) (by rw [c126]; exact tin.2), c126, zl_b, zi_w_id (x := j + 1) (by omega) (by omega)]
    have k2 : ∀ (b2 : Int) (b3 b4 b5 : Int → Int), ((b2 = -2 ∧ ∀ i : Int, 0 ≤ i → i < j + 1 → ¬ zb t i.toNat = true) ∨ ∃ i : Int, (0 ≤ i ∧ i < j + 1 ∧ zb t i.toNat = true) ∧ (∀ j : Int, 0 ≤ j → j < i → ¬ zb t j.toNat = true) ∧ b2 = i) → zh_ok (zf_M_fastest_l0 s n p0 mc mA mk mh mt C mf f 0 b2 (j + 1) b3 b4 b5) _ := fun b2 b3 b4 b5 hh => kk (0, b2, b3, b4, b5) hj ⟨rfl, hh⟩
    refine zh_ite (fun q6 => k2 _ _ _ _ ?_) fun q6 => ?_
    · have hno : ¬ zb t j.toNat = true := fun ht => by
        have : zs_has 24 t j = 1 := by
          unfold zs_has
          rw [if_pos ⟨j0, hj, by rw [zb_tb2 tin.1 tin.2]; exact ht⟩]
        rw [this] at q6
        exact absurd q6 (by decide)
      rcases ha with ⟨x1, x2⟩ | ⟨i, ⟨x1, x2, x3⟩, x4, x5⟩
      · refine .inl ⟨x1, fun i i0 i1 => ?_⟩
        by_cases e : i = j
        · subst e; exact hno
        · exact x2 i i0 (by omega)
      · exact .inr ⟨i, ⟨x1, by omega, x3⟩, x4, x5⟩
    · have hti := yw_hs tin.1 tin.2 q6
      refine zh_bind (yw_comesByE R sq hmB s0 s1 j0 hj hti (by omega) (by omega)) fun r18 h18 => ?_
      have o1 : r18.1 = 0 := by
        rcases h18 with ⟨k, -, o1, -, pl⟩ | ⟨-, pl⟩
        · rcases Nat.eq_zero_or_pos k with e | e
          · rw [o1, e]; rfl
          · exact absurd rfl (pl 0 e)
        · exact absurd rfl (pl 0 (by omega))
      rw [o1, if_neg (by decide), if_neg (by decide), if_pos rfl]
      rcases ha with ⟨rfl, x2⟩ | ⟨i, ⟨x1, x2, x3⟩, x4, rfl⟩
      · rw [if_pos rfl]
        exact k2 _ _ _ _ (.inr ⟨j, ⟨j0, by omega, hti⟩, fun l l0 l1 => x2 l l0 l1, rfl⟩)
      · rw [if_neg (by omega)]
        exact k2 _ _ _ _ (.inr ⟨a2, ⟨x1, by omega, x3⟩, x4, rfl⟩)
  · rcases ha with ⟨x1, x2⟩ | ⟨i, ⟨x1, x2, x3⟩, x4, x5⟩
    · exact .inl ⟨x1, fun i i0 i1 => x2 i i0 (by omega)⟩
    · exact .inr ⟨i, ⟨x1, by omega, x3⟩, x4, x5⟩
theorem yw_fastME (R : yl_R L K V nc tS tL sP lP kd fr hf to mc C mk mf mh mt) (k : yk_sky t h u cl sc sr ch co ro br wc wr m) (z : yk_sea ts gp gl m) (sq : yw_sq t h u cl sc sr ch ts co ro br wc wr gl hs us cs rs) {x y n w : Int} {aA g S : Int → Int} :
    zh_ok (zf_M_fastest s x y n w mc m aA mk g mh mt C S mf) fun o => ((yw_fbad ts t s x y n w ∧ o.1 = -1) ∨ (¬ yw_fbad ts t s x y n w ∧ yw_fa t w (fun i => yw_pos L tS cl sc sr hs us cs rs br gl (gp s) i) (gp s) (24 * y + x) n.toNat o.1)) ∧ ∀ j, 0 ≤ j → j < 422 → o.2.1 j = m j := by
  obtain ⟨⟨ht, k126⟩, -⟩ := id k
  obtain ⟨⟨t1, t2, e127, hsp, -⟩, hb⟩ := id z
  have tin : 0 ≤ t ∧ t ≤ 2147483647 := ⟨ht.1, by have := ht.2; omega⟩
  unfold zf_M_fastest
  rw [ze_M_isShip (by omega) (by omega), zl_b, e127]
  refine zh_ite (fun q => zh_ret ⟨.inl ⟨.inl q, rfl⟩, fun _ _ _ => rfl⟩) fun b1 => ?_
  rw [ze_M_isPlace, zl_b]
  refine zh_ite (fun q => zh_ret ⟨.inl ⟨.inr (.inl q), rfl⟩, fun _ _ _ => rfl⟩) fun b2 => ?_
  rw [ze_M_in, zl_b]
  refine zh_ite (fun q => zh_ret ⟨.inl ⟨.inr (.inr (.inr (.inl q))), rfl⟩, fun _ _ _ => rfl⟩) fun q2 => ?_
  rw [ze_M_in, zl_b]
  refine zh_ite (fun q => zh_ret ⟨.inl ⟨.inr (.inr (.inr (.inr q))), rfl⟩, fun _ _ _ => rfl⟩) fun q3 => ?_
  rw [k126]
  refine zh_ite (fun q => zh_ret ⟨.inl ⟨.inr (.inr (.inl q)), rfl⟩, fun _ _ _ => rfl⟩) fun b3 => ?_
  have hgood : ¬ yw_fbad ts t s x y n w := fun hb => by
    rcases hb with a | a | a | a | a
    · exact b1 a
    · exact b2 a
    · exact b3 a
    · exact q2 a
    · exact q3 a
  obtain ⟨s0, s1, -⟩ := zs_has_ne b1
  obtain ⟨x0, x1, y0, y1⟩ := zs_pl_ne b2
  obtain ⟨n0, n1⟩ := zs_in_ne q2
  obtain ⟨mA, e1, hA⟩ := ze_begins (g0 := m) (g := aA)
  rw [e1, zl_b, zl_b, zi_w_id (x := 120 + s) (by omega) (by omega), zi_w_id (x := 24 * y) (by omega) (by omega), zi_w_id (x := 24 * y + x) (by omega) (by omega)]
  have hmA : ∀ m2, (∀ j, 0 ≤ j → j < 422 → m2 j = mA j) → yw_mk t cl sc sr ch ts s br wc wr gl hs us cs rs 0 (gp s) m2 := fun m2 e => by
    obtain ⟨⟨rfl, rfl, rfl, rfl⟩, -⟩ := sq
    have e2 : ∀ j, 0 ≤ j → j < 422 → m2 j = m j := fun j j0 j1 => (e j j0 j1).trans (hA j j0 j1)
    exact ⟨gp, yk_sky_cg k (fun _ _ _ => rfl) (fun _ _ _ => rfl) (fun _ _ _ => rfl) (fun _ _ _ => rfl) (fun _ _ _ => rfl) e2, yk_sea_cg z (fun _ _ _ => rfl) (fun _ _ _ => rfl) e2, rfl⟩
  have b126 : mA 126 = t := by rw [hA 126 (by decide) (by decide), k126]
  have fin : ∀ m2, ∃ m3, zf_M_again mA m2 = some m3 ∧ ∀ j, 0 ≤ j → j < 422 → m3 j = m j := fun m2 => by
    obtain ⟨m3, e3, h3⟩ := ze_again (g0 := mA) (g := m2)
    exact ⟨m3, e3, fun j j0 j1 => by rw [h3 j j0 j1, hA j j0 j1]⟩
  refine zh_cond (zi_ix_of (by omega) (by omega)) ?_
  rw [hsp s s0 s1]
  refine zh_ite (fun he => ?_) fun hne => ?_
  · rw [← he]
    refine zh_bind (yw_ml1 R sq hmA b126 s0 s1 n0 n1 tin) fun q28 h28 => ?_
    obtain ⟨m3, e3, h3⟩ := fin q28.2.2.1
    obtain ⟨o1, ho⟩ := h28
    have ho : ∃ i : Int, (0 ≤ i ∧ i < 24 ∧ zb t i.toNat = true) ∧ (∀ j : Int, 0 ≤ j → j < i → ¬ zb t j.toNat = true) ∧ q28.2.1 = i := by
      rcases ho with ⟨-, hno⟩ | ho
      · exact absurd ((z24_z ht).mpr fun j hj => by
          cases c : zb t j
          · rfl
          · exact absurd c (hno (j : Int) (by omega) (by omega))) b3
      · exact ho
    obtain ⟨i, ⟨i0, i1, hti⟩, hlow, o2⟩ := ho
    have hfa : ∀ r, r = (if w = 0 then 0 else i) → yw_fa t w (fun i => yw_pos L tS cl sc sr hs us cs rs br gl (gp s) i) (gp s) (gp s) n.toNat r := fun r hr => .inl ⟨rfl, i.toNat, ⟨by omega, hti, fun j hj => by
      cases c : zb t j
      · rfl
      · exact absurd c (hlow (j : Int) (by omega) (by omega))⟩, by rw [hr, Int.toNat_of_nonneg i0]⟩
    rw [e3, zl_b, o1, if_neg (by decide)]
    exact zh_ite (fun cw => zh_ret ⟨.inr ⟨hgood, hfa _ (by rw [if_pos cw])⟩, h3⟩) fun cw => zh_ret ⟨.inr ⟨hgood, hfa _ (by rw [if_neg cw]; exact o2)⟩, h3⟩
  · refine zh_bind (yw_ml0 R sq hmA b126 s0 s1 n0 n1 tin hne) fun q28 h28 => ?_
    obtain ⟨m3, e3, h3⟩ := fin q28.2.2.1
    rw [e3, zl_b]
    rcases h28 with ⟨kk, i, o2, o3, o4⟩ | ⟨o1, o2⟩
    · have : kk ≤ n.toNat := o2.1.2
      rw [o3, if_neg (by omega)]
      exact zh_ite (fun cw => zh_ret ⟨.inr ⟨hgood, .inr ⟨hne, .inl ⟨kk, i, o2, by rw [if_pos cw]⟩⟩⟩, h3⟩) fun cw => zh_ret ⟨.inr ⟨hgood, .inr ⟨hne, .inl ⟨kk, i, o2, by rw [if_neg cw]; exact o4⟩⟩⟩, h3⟩
    · rw [o1, if_pos rfl]
      exact zh_ret ⟨.inr ⟨hgood, .inr ⟨hne, .inr ⟨o2, rfl⟩⟩⟩, h3⟩
theorem yo_fastest (R : yl_R L K V nc tS tL sP lP kd fr hf to mc C mk mf mh mt) (k : yk_sky t h u cl sc sr ch co ro br wc wr m) (z : yk_sea ts gp gl m) {s x y n w : Int} {f2 f4 f6 f8 f10 f12 f14 f18 f19 f20 f22 f24 f26 f27 : Int} {g1 g3 g5 g7 g9 g10 g12 g13 g18 aA g S : Int → Int} :
    ∃ o1 o2, zf_X_fastest s x y n w ts t f2 h f4 u f6 cl f8 sc f10 sr f12 ch f14 f18 f19 f20 tS f22 nc f24 sP f26 f27 co g1 ro g3 br g5 wc g7 wr g9 g10 gp g12 g13 kd hf to K g18 V gl = some o1 ∧ zf_M_fastest s x y n w mc m aA mk g mh mt C S mf = some o2 ∧ o1.1 = o2.1 ∧ ∀ j, 0 ≤ j → j < 422 → o2.2.1 j = m j := by
  have k2 : yk_sky t h u cl sc sr ch (zv_cpy co g1 24) (zv_cpy ro g3 24) (zv_cpy br g5 24) (zv_cpy wc g7 24) (zv_cpy wr g9 24) m := yk_sky_cg k (fun j j1 j2 => zv_cpy_in j2) (fun j j1 j2 => zv_cpy_in j2) (fun j j1 j2 => zv_cpy_in j2) (fun j j1 j2 => zv_cpy_in j2) (fun j j1 j2 => zv_cpy_in j2) (fun _ _ _ => rfl)
  obtain ⟨hs, us, cs, rs, sq⟩ := yw_sq_ex ⟨gp, m, k2, z⟩
  obtain ⟨o1, e1, h1⟩ := yw_fastXE (s := s) (x := x) (y := y) (n := n) (w := w) (f2 := f2) (f4 := f4) (f6 := f6) (f8 := f8) (f10 := f10) (f12 := f12) (f14 := f14) (f18 := f18) (f19 := f19) (f20 := f20) (f22 := f22) (f24 := f24) (f26 := f26) (f27 := f27) (g10 := g10) (g12 := g12) (g13 := g13) (g18 := g18) R k z sq
  obtain ⟨o2, e2, h2, h3⟩ := yw_fastME (s := s) (x := x) (y := y) (n := n) (w := w) (aA := aA) (g := g) (S := S) R k2 z sq
  refine ⟨o1, o2, e1, e2, ?_, h3⟩
  rcases h1 with ⟨a1, a2⟩ | ⟨a1, a2⟩
  · rcases h2 with ⟨-, b2⟩ | ⟨b1, -⟩
    · rw [a2, b2]
    · exact absurd a1 b1
  · rcases h2 with ⟨b1, -⟩ | ⟨-, b2⟩
    · exact absurd b1 a1
    · exact yw_fa_1 a2 b2
end YLZ
