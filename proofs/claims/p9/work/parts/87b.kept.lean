/-! Copies of the whole state, keep and undo, check. -/
section YKE
variable {t h u cl sc sr ch ts : Int} {co ro br wc wr m gp gl : Int → Int}
theorem yk_sky_cg (k : yk_sky t h u cl sc sr ch co ro br wc wr m) {co2 ro2 br2 wc2 wr2 m2 : Int → Int} (e1 : ∀ j, 0 ≤ j → j < 24 → co2 j = co j) (e2 : ∀ j, 0 ≤ j → j < 24 → ro2 j = ro j) (e3 : ∀ j, 0 ≤ j → j < 24 → br2 j = br j) (e4 : ∀ j, 0 ≤ j → j < 24 → wc2 j = wc j) (e5 : ∀ j, 0 ≤ j → j < 24 → wr2 j = wr j)
    (e : ∀ j, 0 ≤ j → j < 422 → m2 j = m j) : yk_sky t h u cl sc sr ch co2 ro2 br2 wc2 wr2 m2 := by
  obtain ⟨⟨ht, k126⟩, ⟨hk2, k128⟩, k129, ⟨hk4, k130⟩, ⟨hk5, k131⟩, ⟨hk6, k132⟩, ⟨hk7, k133⟩, ki⟩ := k
  refine ⟨⟨ht, by rw [e _ (by decide) (by decide)]; exact k126⟩, ⟨hk2, by rw [e _ (by decide) (by decide)]; exact k128⟩, by rw [e _ (by decide) (by decide)]; exact k129, ⟨hk4, by rw [e _ (by decide) (by decide)]; exact k130⟩, ⟨hk5, by rw [e _ (by decide) (by decide)]; exact k131⟩, ⟨hk6, by rw [e _ (by decide) (by decide)]; exact k132⟩, ⟨hk7, by rw [e _ (by decide) (by decide)]; exact k133⟩, fun j j1 j2 => ?_⟩
  rw [e j j1 (by omega), e (24 + j) (by omega) (by omega), e (48 + j) (by omega) (by omega), e (72 + j) (by omega) (by omega), e (96 + j) (by omega) (by omega), e1 j j1 j2, e2 j j1 j2, e3 j j1 j2, e4 j j1 j2, e5 j j1 j2]
  exact ki j j1 j2
theorem yk_sea_cg (z : yk_sea ts gp gl m) {gp2 gl2 m2 : Int → Int} (e1 : ∀ j, 0 ≤ j → j < 6 → gp2 j = gp j) (e2 : ∀ j, 0 ≤ j → j < 12 → gl2 j = gl j) (e : ∀ j, 0 ≤ j → j < 422 → m2 j = m j) : yk_sea ts gp2 gl2 m2 := by
  obtain ⟨⟨t1, t2, k1, hs, hr, hl⟩, hb⟩ := z
  refine ⟨⟨t1, t2, by rw [e _ (by decide) (by decide)]; exact k1, fun s s1 s2 => by rw [e _ (by omega) (by omega), e1 s s1 s2]; exact hs s s1 s2, fun y y1 y2 => by rw [e2 y y1 y2]; exact hr y y1 y2, fun x y x1 x2 y1 y2 => by rw [e _ (by omega) (by omega), e2 y y1 y2]; exact hl x y x1 x2 y1 y2⟩, fun s s1 s2 => by rw [e1 s s1 s2]; exact hb s s1 s2⟩
theorem ze_copies_l {g0 : Int → Int} : ∀ (d : Nat) (j : Int) (g : Int → Int) (n : Nat), j + d = 422 → 0 ≤ j → d < n → ∃ g2, zf_M_copies_422_422_l0 g0 n j g = some g2 ∧ (∀ i, j ≤ i → i < 422 → g2 i = g0 i) ∧ ∀ i, i < j → g2 i = g i := by
  intro d
  induction d with
  | zero =>
    intro j g n e _ hn
    obtain ⟨n, rfl⟩ : ∃ q, n = q + 1 := ⟨n - 1, by omega⟩
    refine ⟨g, ?_, fun i _ _ => by omega, fun _ _ => rfl⟩
    show zf_M_copies_422_422_l0_b g0 (zf_M_copies_422_422_l0 g0 n) j g = _
    unfold zf_M_copies_422_422_l0_b
    rw [if_neg (by omega)]
  | succ d ih =>
    intro j g n e j0 hn
    obtain ⟨n, rfl⟩ : ∃ q, n = q + 1 := ⟨n - 1, by omega⟩
    obtain ⟨g2, e1, a, b⟩ := ih (j + 1) (zv_up g j (g0 j)) n (by omega) (by omega) (by omega)
    refine ⟨g2, ?_, fun i i1 i2 => ?_, fun i i1 => ?_⟩
    · show zf_M_copies_422_422_l0_b g0 (zf_M_copies_422_422_l0 g0 n) j g = _
      unfold zf_M_copies_422_422_l0_b
      rw [if_pos (by omega), zl_ci j0 (by omega), zi_w_id (x := j + 1) (by omega) (by omega), e1]
    · by_cases q : i = j
      · subst q
        rw [b i (by omega), zv_up_s]
      · exact a i (by omega) i2
    · rw [b i (by omega), zv_up_n (by omega)]
theorem ze_copies {g0 g : Int → Int} : ∃ g2, zf_M_copies_422_422 g0 g = some g2 ∧ ∀ i, 0 ≤ i → i < 422 → g2 i = g0 i := by
  obtain ⟨g2, e1, a, -⟩ := ze_copies_l (g0 := g0) 422 0 g zi_fu (by decide) (by decide) (by decide)
  refine ⟨g2, ?_, a⟩
  unfold zf_M_copies_422_422
  rw [e1]; rfl
theorem ze_begins {g0 g : Int → Int} : ∃ g2, zf_M_begins g0 g = some g2 ∧ ∀ i, 0 ≤ i → i < 422 → g2 i = g0 i := by
  obtain ⟨g2, e1, a⟩ := ze_copies (g0 := g0) (g := g)
  refine ⟨g2, ?_, a⟩
  unfold zf_M_begins
  rw [e1]; rfl
theorem ze_again {g0 g : Int → Int} : ∃ g2, zf_M_again g0 g = some g2 ∧ ∀ i, 0 ≤ i → i < 422 → g2 i = g0 i := by
  obtain ⟨g2, e1, a⟩ := ze_copies (g0 := g0) (g := g)
  refine ⟨g2, ?_, a⟩
  unfold zf_M_again
  rw [e1]; rfl
theorem zv_cpy_in {g0 g : Int → Int} {n j : Int} (h : j < n) : zv_cpy g0 g n j = g0 j := if_pos h
theorem yo_keep (k : yk_sky t h u cl sc sr ch co ro br wc wr m) (z : yk_sea ts gp gl m) {f1 f3 f5 f7 f9 f11 f13 f15 f16 f0 : Int} {g1 g3 g5 g7 g9 g11 g13 mK : Int → Int} :
    ∃ r co' ro' br' wc' wr' gl' gp' mK', zf_X_keep t f1 h f3 u f5 cl f7 sc f9 sr f11 ch f13 ts f15 f16 co g1 ro g3 br g5 wc g7 wr g9 gl g11 gp g13 = some (r, t, h, u, cl, sc, sr, ch, ts, 1, co', ro', br', wc', wr', gl', gp') ∧
      zf_M_keep f0 m mK = some (r, 1, mK') ∧ yk_sky t h u cl sc sr ch co' ro' br' wc' wr' mK' ∧ yk_sea ts gp' gl' mK' := by
  obtain ⟨⟨ht, k126⟩, -⟩ := id k
  obtain ⟨g2, e2, a⟩ := ze_copies (g0 := m) (g := mK)
  refine ⟨zs_sum t 24, zv_cpy co g1 24, zv_cpy ro g3 24, zv_cpy br g5 24, zv_cpy wc g7 24, zv_cpy wr g9 24, zv_cpy gl g11 12, zv_cpy gp g13 6, g2, ?_, ?_, yk_sky_cg k (fun j j1 j2 => zv_cpy_in j2) (fun j j1 j2 => zv_cpy_in j2) (fun j j1 j2 => zv_cpy_in j2) (fun j j1 j2 => zv_cpy_in j2) (fun j j1 j2 => zv_cpy_in j2) a, yk_sea_cg z (fun j j1 j2 => zv_cpy_in j2) (fun j j1 j2 => zv_cpy_in j2) a⟩
  · unfold zf_X_keep zf_Sky_copyFrom zf_Sea_copyFrom
    rw [zl_b, zl_b, ze_bitCount ht.1 (by have := ht.2; omega), zl_b]
  · unfold zf_M_keep
    rw [e2, zl_b, k126, ze_M_bits ht.1 (by have := ht.2; omega), zl_b]
theorem yo_undo {ik : Int} {mK : Int → Int} {f2 f4 f6 f8 f10 f12 f14 f16 : Int} {g1 g3 g5 g7 g9 g11 g13 : Int → Int} (hk : ik ≠ 0 → yk_sky t h u cl sc sr ch co ro br wc wr mK ∧ yk_sea ts gp gl mK) (k : yk_sky f2 f4 f6 f8 f10 f12 f14 g1 g3 g5 g7 g9 m) (z : yk_sea f16 g13 g11 m) :
    ∃ r f2' f4' f6' f8' f10' f12' f14' f16' g1' g3' g5' g7' g9' g11' g13' m', zf_X_undo ik t f2 h f4 u f6 cl f8 sc f10 sr f12 ch f14 ts f16 co g1 ro g3 br g5 wc g7 wr g9 gl g11 gp g13 = some (r, f2', f4', f6', f8', f10', f12', f14', f16', g1', g3', g5', g7', g9', g11', g13') ∧
      zf_M_undo ik mK m = some (r, m') ∧ yk_sky f2' f4' f6' f8' f10' f12' f14' g1' g3' g5' g7' g9' m' ∧ yk_sea f16' g13' g11' m' := by
  unfold zf_X_undo zf_M_undo
  by_cases q : ik = 0
  · rw [if_pos q, if_pos q]
    exact ⟨0, f2, f4, f6, f8, f10, f12, f14, f16, g1, g3, g5, g7, g9, g11, g13, m, rfl, rfl, k, z⟩
  · rw [if_neg q, if_neg q]
    obtain ⟨kk, kz⟩ := hk q
    obtain ⟨g2, e2, a⟩ := ze_copies (g0 := mK) (g := m)
    unfold zf_Sky_copyFrom zf_Sea_copyFrom
    rw [zl_b, zl_b, e2, zl_b]
    exact ⟨1, _, _, _, _, _, _, _, _, _, _, _, _, _, _, _, g2, rfl, rfl, yk_sky_cg kk (fun j j1 j2 => zv_cpy_in j2) (fun j j1 j2 => zv_cpy_in j2) (fun j j1 j2 => zv_cpy_in j2) (fun j j1 j2 => zv_cpy_in j2) (fun j j1 j2 => zv_cpy_in j2) a, yk_sea_cg kz (fun j j1 j2 => zv_cpy_in j2) (fun j j1 j2 => zv_cpy_in j2) a⟩
theorem yo_check_l {x : Int} {T M : Int → Int} (z : yk_sea ts gp gl m) (hT : yk_T T M) (x2 : x ≤ 6) : ∀ (d : Nat) (i : Int) (f f3 : Nat), x - i ≤ d → 0 ≤ i → d < f → d < f3 → (zf_X_check_l0 x 0 ts T gp f i = some (.inl ()) ∧ zf_M_check_l0 x 0 M m f3 i = some (.inl ())) ∨ ∃ r, zf_X_check_l0 x 0 ts T gp f i = some (.inr (r, 0)) ∧ zf_M_check_l0 x 0 M m f3 i = some (.inr (r, 0)) := by
  obtain ⟨⟨t1, t2, e127, hs, -⟩, hb⟩ := id z
  intro d
  induction d with
  | zero =>
    intro i f f3 e i0 hf hf3
    obtain ⟨f, rfl⟩ : ∃ q, f = q + 1 := ⟨f - 1, by omega⟩
    obtain ⟨f3, rfl⟩ : ∃ q, f3 = q + 1 := ⟨f3 - 1, by omega⟩
    refine .inl ⟨?_, ?_⟩
    · show zf_X_check_l0_b x 0 ts T gp (zf_X_check_l0 x 0 ts T gp f) i = _
      unfold zf_X_check_l0_b
      rw [if_neg (by omega)]
    · show zf_M_check_l0_b x 0 M m (zf_M_check_l0 x 0 M m f3) i = _
      unfold zf_M_check_l0_b
      rw [if_neg (by omega)]
  | succ d ih =>
    intro i f f3 e i0 hf hf3
    obtain ⟨f, rfl⟩ : ∃ q, f = q + 1 := ⟨f - 1, by omega⟩
    obtain ⟨f3, rfl⟩ : ∃ q, f3 = q + 1 := ⟨f3 - 1, by omega⟩
    show (zf_X_check_l0_b x 0 ts T gp (zf_X_check_l0 x 0 ts T gp f) i = _ ∧ zf_M_check_l0_b x 0 M m (zf_M_check_l0 x 0 M m f3) i = _) ∨ ∃ r, zf_X_check_l0_b x 0 ts T gp (zf_X_check_l0 x 0 ts T gp f) i = _ ∧ zf_M_check_l0_b x 0 M m (zf_M_check_l0 x 0 M m f3) i = _
    unfold zf_X_check_l0_b zf_M_check_l0_b
    by_cases q : i < x
    · have nx := ih (i + 1) f f3 (by omega) (by omega) (by omega) (by omega)
      rw [if_pos q, if_pos q, ze_Sea_hasShip t1 (by omega), zl_b, ze_tapeNumber hT i0 (by omega), zl_b, ze_M_isShip (by omega) (by omega), e127, zl_b, ze_numberAt i0 (by omega), zl_b, zl_b, zi_w_id (x := i + 1) (by omega) (by omega), zi_w_id (x := 120 + i) (by omega) (by omega), zl_ci i0 (by omega), zl_ci (by omega) (by omega), hs i i0 (by omega)]
      by_cases s : zs_has 6 ts i = 0
      · rw [if_pos s, if_pos s]
        by_cases c : yt_nb T i = 0
        · rw [if_pos c, if_pos c]; exact nx
        · rw [if_neg c, if_neg c]; exact .inr ⟨i, rfl, rfl⟩
      · rw [if_neg s, if_neg s]
        by_cases c : yt_nb T i = gp i
        · rw [if_pos c, if_pos c]; exact nx
        · rw [if_neg c, if_neg c]; exact .inr ⟨i, rfl, rfl⟩
    · rw [if_neg q, if_neg q]
      exact .inl ⟨rfl, rfl⟩
theorem yo_check {x n n2 : Int} {T M : Int → Int} (z : yk_sea ts gp gl m) (p : yk_tape n n2 T M) : ∃ r n' n2', zf_X_check x n ts T gp = some (r, n') ∧ zf_M_check x n2 M m = some (r, n2') ∧ yk_tape n' n2' T M := by
  obtain ⟨rfl, n0, n1, hT⟩ := id p
  unfold zf_X_check zf_M_check
  rw [ze_X_isWithin, ze_M_in, zl_b, zl_b]
  by_cases q : zs_in x 0 6 = 0
  · rw [if_pos q, if_pos q]
    exact ⟨-2, n2, n2, rfl, rfl, p⟩
  rw [if_neg q, if_neg q]
  obtain ⟨x1, x2⟩ := zs_in_ne q
  unfold zf_Tape_take
  rw [zi_w_id (x := 4 * x) (by omega) (by omega), zi_div_eq n0 (by omega) (by decide) (by decide)]
  by_cases c : n2 < 4 * x
  · rw [if_pos c, zl_b, if_pos rfl, if_pos (by omega)]
    exact ⟨-2, n2, n2, rfl, rfl, p⟩
  rw [if_neg c, zl_b, if_neg (show ¬ (1 : Int) = 0 by decide), if_neg (show ¬ n2 / 4 < x by omega)]
  have pp : yk_tape 0 0 T M := ⟨rfl, by decide, by decide, hT⟩
  rcases yo_check_l (x := x) z hT (by omega) 6 0 zi_fu zi_fu (by omega) (by decide) (by decide) (by decide) with ⟨e1, e2⟩ | ⟨r, e1, e2⟩
  · dsimp only
    rw [e1, e2, zl_b]
    exact ⟨-1, 0, 0, rfl, rfl, pp⟩
  · dsimp only
    rw [e1, e2, zl_b]
    exact ⟨r, 0, 0, rfl, rfl, pp⟩
end YKE
