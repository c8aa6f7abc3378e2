/-! fastest in the reference: the first hour, the first star; both the same. -/
section YLM
variable {L : zLW} {K V kd fr hf to C mk mf mh mt : Int → Int} {nc tS tL sP lP mc : Int} {t h u cl sc sr ch ts p i s : Int} {co ro br wc wr m gp gl : Int → Int} {hs us : Nat → Int} {cs rs : Nat → Int → Int}
/-- the reference at hour k, the ship at q -/
def yw_mk (t cl sc sr ch ts s : Int) (br wc wr gl : Int → Int) (hs us : Nat → Int) (cs rs : Nat → Int → Int) (k : Nat) (q : Int) (m : Int → Int) : Prop := ∃ gp, yk_sky t (hs k) (us k) cl sc sr ch (cs k) (rs k) br wc wr m ∧ yk_sea ts gp gl m ∧ gp s = q
theorem ym_steerE (R : yl_R L K V nc tS tL sP lP kd fr hf to mc C mk mf mh mt) (sq : yw_sq t h u cl sc sr ch ts co ro br wc wr gl hs us cs rs) {k : Nat} {q : Int} (hm : yw_mk t cl sc sr ch ts s br wc wr gl hs us cs rs k q m) (s0 : 0 ≤ s) (s1 : s < 6) (i1 : 0 ≤ i) (i2 : i < 24) (hti : zb t i.toNat = true) {g S : Int → Int} :
    zh_ok (zf_M_steers s i 0 mc m mk g mh mt C S mf) fun o => yw_mk t cl sc sr ch ts s br wc wr gl hs us cs rs (k + 1) (yw_nx L tS cl sc sr (hs k) (us k) (cs k) (rs k) br gl q i) o.1 := by
  obtain ⟨gp, kk, z, rfl⟩ := hm
  obtain ⟨p1, p2⟩ := z.2 s s0 s1
  obtain ⟨g', S', e1⟩ := ym_steersFrom (g := g) (S := S) R kk z p1 p2 i1 i2 hti
  have hq := yw_nx_in (L := L) (tS := tS) (sq.2 k).2 p1 p2 i1 i2
  have z2 := yk_sea_up z s0 s1 hq.1 hq.2
  have k2 : yk_sky t (hs k) (us k) cl sc sr ch (cs k) (rs k) br wc wr (zv_up m (120 + s) (yw_nx L tS cl sc sr (hs k) (us k) (cs k) (rs k) br gl (gp s) i)) := yk_sky_fr kk fun j hj => zv_up_n (by omega)
  obtain ⟨h', u', co', ro', m', e2, e3, k3, e4⟩ := yk_pass k2
  have e5 := (sq.2 k).1
  rw [e2] at e5
  cases e5
  have z3 : yk_sea ts (zv_up gp s (yw_nx L tS cl sc sr (hs k) (us k) (cs k) (rs k) br gl (gp s) i)) gl m' := yk_sea_fr z2 fun j hj => e4 j (by omega) (by omega) (by omega)
  unfold zf_M_steers
  rw [if_pos rfl, zi_w_id (x := 120 + s) (by omega) (by omega), zl_ci (by omega) (by omega), z.1.2.2.2.1 s s0 s1, e1, zl_b]
  dsimp only
  show zh_ok ((zf_M_passes (zv_up m (120 + s) (yw_nx L tS cl sc sr (hs k) (us k) (cs k) (rs k) br gl (gp s) i))).bind _) _
  rw [e3, zl_b]
  exact zh_ret ⟨_, k3, z3, zv_up_s⟩
theorem yw_comesByE (R : yl_R L K V nc tS tL sP lP kd fr hf to mc C mk mf mh mt) (sq : yw_sq t h u cl sc sr ch ts co ro br wc wr gl hs us cs rs) {p0 : Int} (hm : yw_mk t cl sc sr ch ts s br wc wr gl hs us cs rs 0 p0 m) (s0 : 0 ≤ s) (s1 : s < 6) (i1 : 0 ≤ i) (i2 : i < 24) (hti : zb t i.toNat = true) {n : Int} (n0 : 0 ≤ n) (n1 : n ≤ 48) {g S : Int → Int} :
    zh_ok (zf_M_comesBy s i p n mc m mk g mh mt C S mf) fun o => (∃ k : Nat, (k : Int) ≤ n ∧ o.1 = k ∧ yw_pos L tS cl sc sr hs us cs rs br gl p0 i k = p ∧ ∀ l, l < k → yw_pos L tS cl sc sr hs us cs rs br gl p0 i l ≠ p) ∨ (o.1 = -1 ∧ ∀ l : Nat, (l : Int) ≤ n → yw_pos L tS cl sc sr hs us cs rs br gl p0 i l ≠ p) := by
  unfold zf_M_comesBy
  refine zh_sum (Q := fun o => match o with
    | .inl _ => ∀ l : Nat, (l : Int) ≤ n → yw_pos L tS cl sc sr hs us cs rs br gl p0 i l ≠ p
    | .inr o => ∃ k : Nat, (k : Int) ≤ n ∧ o.1 = k ∧ yw_pos L tS cl sc sr hs us cs rs br gl p0 i k = p ∧ ∀ l, l < k → yw_pos L tS cl sc sr hs us cs rs br gl p0 i l ≠ p) (zh_loop (F := fun f j (a : (Int → Int) × (Int → Int) × (Int → Int)) => zf_M_comesBy_l0 s i p n mc mk mh mt C mf f j a.1 a.2.1 a.2.2) (N := n + 1) (I := fun j a => ∃ k : Nat, j = k ∧ (j ≤ n → yw_mk t cl sc sr ch ts s br wc wr gl hs us cs rs k (yw_pos L tS cl sc sr hs us cs rs br gl p0 i k) a.1) ∧ ∀ l, l < k → yw_pos L tS cl sc sr hs us cs rs br gl p0 i l ≠ p) (fun f j a j0 j1 ha kk => ?_) 49 0 (m, g, S) zi_fu (by omega) (by decide) (by omega) (by decide) ⟨0, rfl, fun _ => hm, fun l hl => by omega⟩) (fun _ hq => zh_ret (.inr ⟨rfl, hq⟩)) fun _ hq => zh_ret (.inl hq)
  obtain ⟨a1, a2, a3⟩ := a
  obtain ⟨k, ek, hm2, hn⟩ := ha
  dsimp only at hm2
  show zh_ok (zf_M_comesBy_l0_b s i p n mc mk mh mt C mf (zf_M_comesBy_l0 s i p n mc mk mh mt C mf f) j a1 a2 a3) _
  unfold zf_M_comesBy_l0_b
  refine zh_ite (fun hlt => zh_ret fun l hl => hn l (by omega)) fun hle => ?_
  have hm3 := hm2 (by omega)
  rw [zi_w_id (x := 120 + s) (by omega) (by omega), zi_w_id (x := j + 1) (by omega) (by omega)]
  have hpos : a1 (120 + s) = yw_pos L tS cl sc sr hs us cs rs br gl p0 i k := by
    obtain ⟨gp2, -, z2, e⟩ := hm3
    rw [z2.1.2.2.2.1 s s0 s1, e]
  refine zh_cond (zi_ix_of (by omega) (by omega)) (zh_ite (fun e => zh_ret ⟨k, by omega, ek, by rw [← hpos]; exact e, hn⟩) fun e => ?_)
  have hn2 : ∀ l, l < k + 1 → yw_pos L tS cl sc sr hs us cs rs br gl p0 i l ≠ p := fun l hl => by
    by_cases e2 : l = k
    · subst e2; rw [← hpos]; exact e
    · exact hn l (by omega)
  refine zh_ite (fun hjn => zh_bind (ym_steerE R sq hm3 s0 s1 i1 i2 hti) fun r5 h5 => ?_) fun hjn => ?_
  · exact kk (_, _, _) (by omega) ⟨k + 1, by omega, fun _ => h5, hn2⟩
  · exact kk (_, _, _) (by omega) ⟨k + 1, by omega, fun h => by omega, hn2⟩
theorem yw_ml0 (R : yl_R L K V nc tS tL sP lP kd fr hf to mc C mk mf mh mt) (sq : yw_sq t h u cl sc sr ch ts co ro br wc wr gl hs us cs rs) {p0 : Int} {mA : Int → Int} (hmA : ∀ m2, (∀ j, 0 ≤ j → j < 422 → m2 j = mA j) → yw_mk t cl sc sr ch ts s br wc wr gl hs us cs rs 0 p0 m2) (b126 : mA 126 = t) (s0 : 0 ≤ s) (s1 : s < 6) {n : Int} (n0 : 1 ≤ n) (n1 : n ≤ 48) (tin : 0 ≤ t ∧ t ≤ 2147483647) (hne : p0 ≠ p) {m1 g S : Int → Int} :
    zh_ok (zf_M_fastest_l0 s n p mc mA mk mh mt C mf zi_fu 1000000000 (-2) 0 m1 g S) fun o => (∃ (k : Nat) (i : Int), yw_hit t (fun i => yw_pos L tS cl sc sr hs us cs rs br gl p0 i) p n.toNat k i ∧ o.1 = k ∧ o.2.1 = i) ∨ (o.1 = 1000000000 ∧ yw_noh t (fun i => yw_pos L tS cl sc sr hs us cs rs br gl p0 i) p n.toNat) := by
  refine zh_loop (F := fun f i (a : Int × Int × (Int → Int) × (Int → Int) × (Int → Int)) => zf_M_fastest_l0 s n p mc mA mk mh mt C mf f a.1 a.2.1 i a.2.2.1 a.2.2.2.1 a.2.2.2.2) (N := 24) (I := fun j a => (∃ (k : Nat) (i : Int), ((1 ≤ k ∧ (k : Int) ≤ n) ∧ (0 ≤ i ∧ i < j ∧ zb t i.toNat = true ∧ yw_pos L tS cl sc sr hs us cs rs br gl p0 i k = p) ∧ (∀ j2, 0 ≤ j2 → j2 < i → zb t j2.toNat = true → yw_pos L tS cl sc sr hs us cs rs br gl p0 j2 k ≠ p) ∧ ∀ l j2, 1 ≤ l → l < k → 0 ≤ j2 → j2 < j → zb t j2.toNat = true → yw_pos L tS cl sc sr hs us cs rs br gl p0 j2 l ≠ p) ∧ a.1 = k ∧ a.2.1 = i) ∨ (a.1 = 1000000000 ∧ ∀ (l : Nat) j2, (l : Int) ≤ n → 0 ≤ j2 → j2 < j → zb t j2.toNat = true → yw_pos L tS cl sc sr hs us cs rs br gl p0 j2 l ≠ p)) (fun f j a j0 j1 ha kk => ?_) 24 0 (1000000000, -2, m1, g, S) zi_fu (by decide) (by decide) (by decide) (by decide) (.inr ⟨rfl, fun l j2 _ h1 h2 => by omega⟩)
  obtain ⟨a1, a2, a3, a4, a5⟩ := a
  dsimp only at ha
  show zh_ok (zf_M_fastest_l0_b s n p mc mA mk mh mt C mf (zf_M_fastest_l0 s n p mc mA mk mh mt C mf f) a1 a2 j a3 a4 a5) _
  unfold zf_M_fastest_l0_b
  refine zh_ite (fun hj => ?_) fun hj => zh_ret ?_
  · obtain ⟨mB, e2, hB⟩ := ze_again (g0 := mA) (g := a3)
    have hmB := hmA mB hB
    have c126 : mB 126 = t := by rw [hB 126 (by decide) (by decide), b126]
    rw [e2, zl_b, ze_M_isTold (by rw [c126]; exact tin.1) (by rw [c126]; exact tin.2), c126, zl_b, zi_w_id (x := j + 1) (by omega) (by omega)]
    have k2 : ∀ (b1 b2 : Int) (b3 b4 b5 : Int → Int), ((∃ (k : Nat) (i : Int), ((1 ≤ k ∧ (k : Int) ≤ n) ∧ (0 ≤ i ∧ i < j + 1 ∧ zb t i.toNat = true ∧ yw_pos L tS cl sc sr hs us cs rs br gl p0 i k = p) ∧ (∀ j2, 0 ≤ j2 → j2 < i → zb t j2.toNat = true → yw_pos L tS cl sc sr hs us cs rs br gl p0 j2 k ≠ p) ∧ ∀ l j2, 1 ≤ l → l < k → 0 ≤ j2 → j2 < j + 1 → zb t j2.toNat = true → yw_pos L tS cl sc sr hs us cs rs br gl p0 j2 l ≠ p) ∧ b1 = k ∧ b2 = i) ∨ (b1 = 1000000000 ∧ ∀ (l : Nat) j2, (l : Int) ≤ n → 0 ≤ j2 → j2 < j + 1 → zb t j2.toNat = true → yw_pos L tS cl sc sr hs us cs rs br gl p0 j2 l ≠ p)) → zh_ok (zf_M_fastest_l0 s n p mc mA mk mh mt C mf f b1 b2 (j + 1) b3 b4 b5) _ := fun b1 b2 b3 b4 b5 hh => kk (b1, b2, b3, b4, b5) hj hh
    refine zh_ite (fun q6 => k2 _ _ _ _ _ ?_) fun q6 => ?_
    · have hno : ¬ zb t j.toNat = true := fun ht => by
        have : zs_has 24 t j = 1 := by
          unfold zs_has
          rw [if_pos ⟨j0, hj, by rw [zb_tb2 tin.1 tin.2]; exact ht⟩]
        rw [this] at q6
        exact absurd q6 (by decide)
      rcases ha with ⟨k, i, ⟨x1, ⟨x2, x3, x4, x5⟩, x6, x7⟩, x8, x9⟩ | ⟨x1, x2⟩
      · refine .inl ⟨k, i, ⟨x1, ⟨x2, by omega, x4, x5⟩, x6, fun l j2 l1 l2 y0 y1 ht => x7 l j2 l1 l2 y0 ?_ ht⟩, x8, x9⟩
        by_cases e : j2 = j
        · subst e; exact absurd ht hno
        · omega
      · refine .inr ⟨x1, fun l j2 l1 y0 y1 ht => x2 l j2 l1 y0 ?_ ht⟩
        by_cases e : j2 = j
        · subst e; exact absurd ht hno
        · omega
    · have hti := yw_hs tin.1 tin.2 q6
      refine zh_bind (yw_comesByE R sq hmB s0 s1 j0 hj hti (by omega) (by omega)) fun r18 h18 => ?_
      rcases h18 with ⟨k, k1, o1, pk, pl⟩ | ⟨o1, pl⟩
      · have kpos : 1 ≤ k := by
          rcases Nat.eq_zero_or_pos k with e | e
          · subst e; exact absurd pk hne
          · exact e
        rw [o1, if_neg (by omega)]
        rcases ha with ⟨kb, ib, ⟨x1, ⟨x2, x3, x4, x5⟩, x6, x7⟩, rfl, rfl⟩ | ⟨rfl, x2⟩
        · refine zh_ite (fun c1 => k2 _ _ _ _ _ (.inl ⟨kb, a2, ⟨x1, ⟨x2, by omega, x4, x5⟩, x6, fun l j2 l1 l2 y0 y1 ht => ?_⟩, rfl, rfl⟩)) fun c1 => zh_ite (fun c2 => zh_ite (fun c3 => by omega) fun _ => k2 _ _ _ _ _ (.inl ⟨kb, a2, ⟨x1, ⟨x2, by omega, x4, x5⟩, x6, fun l j2 l1 l2 y0 y1 ht => ?_⟩, rfl, rfl⟩)) fun c2 => k2 _ _ _ _ _ (.inl ⟨k, j, ⟨⟨kpos, k1⟩, ⟨j0, by omega, hti, pk⟩, fun j2 y0 y1 ht => x7 k j2 kpos (by omega) y0 y1 ht, fun l j2 l1 l2 y0 y1 ht => ?_⟩, rfl, rfl⟩)
          · by_cases e : j2 = j
            · subst e; exact pl l (by omega)
            · exact x7 l j2 l1 l2 y0 (by omega) ht
          · by_cases e : j2 = j
            · subst e; exact pl l (by omega)
            · exact x7 l j2 l1 l2 y0 (by omega) ht
          · by_cases e : j2 = j
            · subst e; exact pl l (by omega)
            · exact x7 l j2 l1 (by omega) y0 (by omega) ht
        · refine zh_ite (fun c1 => by omega) fun c1 => zh_ite (fun c2 => by omega) fun c2 => k2 _ _ _ _ _ (.inl ⟨k, j, ⟨⟨kpos, k1⟩, ⟨j0, by omega, hti, pk⟩, fun j2 y0 y1 ht => x2 k j2 k1 y0 y1 ht, fun l j2 l1 l2 y0 y1 ht => ?_⟩, rfl, rfl⟩)
          by_cases e : j2 = j
          · subst e; exact pl l (by omega)
          · exact x2 l j2 (by omega) y0 (by omega) ht
      · rw [o1, if_pos rfl]
        rcases ha with ⟨kb, ib, ⟨x1, ⟨x2, x3, x4, x5⟩, x6, x7⟩, rfl, rfl⟩ | ⟨rfl, x2⟩
        · refine k2 _ _ _ _ _ (.inl ⟨kb, a2, ⟨x1, ⟨x2, by omega, x4, x5⟩, x6, fun l j2 l1 l2 y0 y1 ht => ?_⟩, rfl, rfl⟩)
          by_cases e : j2 = j
          · subst e; exact pl l (by omega)
          · exact x7 l j2 l1 l2 y0 (by omega) ht
        · refine k2 _ _ _ _ _ (.inr ⟨rfl, fun l j2 l1 y0 y1 ht => ?_⟩)
          by_cases e : j2 = j
          · subst e; exact pl l l1
          · exact x2 l j2 l1 y0 (by omega) ht
  · rcases ha with ⟨k, i, ⟨x1, ⟨x2, x3, x4, x5⟩, x6, x7⟩, x8, x9⟩ | ⟨x1, x2⟩
    · exact .inl ⟨k, i, ⟨⟨x1.1, by omega⟩, ⟨x2, by omega, x4, x5⟩, x6, fun l j2 l1 l2 y0 y1 ht => x7 l j2 l1 l2 y0 (by omega) ht⟩, x8, x9⟩
    · exact .inr ⟨x1, fun l j2 l1 l2 y0 y1 ht => x2 l j2 (by omega) y0 (by omega) ht⟩
theorem yw_hit_1 {P : Int → Nat → Int} {pl : Int} {n k k2 : Nat} {i2 : Int} (a : yw_hit t P pl n k i) (b : yw_hit t P pl n k2 i2) : k = k2 ∧ i = i2 := by
  obtain ⟨⟨a1, a2⟩, ⟨a3, a4, a5, a6⟩, a7, a8⟩ := a
  obtain ⟨⟨b1, b2⟩, ⟨b3, b4, b5, b6⟩, b7, b8⟩ := b
  have e : k = k2 := by
    rcases Nat.lt_trichotomy k k2 with h | h | h
    · exact absurd a6 (b8 k i a1 h a3 a4 a5)
    · exact h
    · exact absurd b6 (a8 k2 i2 b1 h b3 b4 b5)
  subst e
  refine ⟨rfl, ?_⟩
  rcases Int.lt_trichotomy i i2 with h | h | h
  · exact absurd a6 (b7 i a3 h a5)
  · exact h
  · exact absurd b6 (a7 i2 b3 h b5)
theorem yw_hit_no {P : Int → Nat → Int} {pl : Int} {n k : Nat} (a : yw_hit t P pl n k i) (b : yw_noh t P pl n) : False := b k i a.1.1 a.1.2 a.2.1.1 a.2.1.2.1 a.2.1.2.2.1 a.2.1.2.2.2
end YLM
