/-! The reference's search over names: level by level. -/
/-- the first way is noted, once -/
def yw_Q (Nn : Int) (nm : Int → Int) (n : Int) (Ls : List (Int → Int)) (g g' : Int → Int) : Prop :=
  (n = 0 → ∀ X, Ls.head? = some X → ∀ j, 0 ≤ j → j < Nn → g' (nm j) = X j) ∧ ((n ≠ 0 ∨ Ls = []) → g' = g)
theorem yw_Q_0 {Nn n : Int} {nm g : Int → Int} : yw_Q Nn nm n [] g g := ⟨fun _ X h => (by cases h), fun _ => rfl⟩
theorem yw_Q_app {Nn n : Int} {nm g g1 g2 : Int → Int} {A B : List (Int → Int)} (n0 : 0 ≤ n) (h1 : yw_Q Nn nm n A g g1) (h2 : yw_Q Nn nm (n + A.length) B g1 g2) : yw_Q Nn nm n (A ++ B) g g2 := by
  cases A with
  | nil =>
    have e : g1 = g := h1.2 (.inr rfl)
    subst e
    have e2 : n + (([] : List (Int → Int)).length : Int) = n := by show n + ((0 : Nat) : Int) = n; omega
    rw [e2] at h2
    exact h2
  | cons x A =>
    have hl : ((x :: A).length : Int) = A.length + 1 := by rw [List.length_cons]; omega
    have e : g2 = g1 := h2.2 (.inl (by omega))
    subst e
    refine ⟨fun hn X hX => h1.1 hn X (by simpa using hX), fun h => ?_⟩
    rcases h with h | h
    · exact h1.2 (.inl h)
    · cases h
theorem yw_Q_cut {Nn n : Int} {nm g g1 : Int → Int} {A B : List (Int → Int)} (h1 : yw_Q Nn nm n A g g1) (hA : A ≠ []) : yw_Q Nn nm n (A ++ B) g g1 := by
  cases A with
  | nil => exact absurd rfl hA
  | cons x A =>
    refine ⟨fun hn X hX => h1.1 hn X (by simpa using hX), fun h => ?_⟩
    rcases h with h | h
    · exact h1.2 (.inl h)
    · cases h
/-- the names, one behind the other -/
def yw_nmz (ni Nn : Int) (nm : Int → Int) : Prop := (0 ≤ Nn ∧ Nn ≤ 8) ∧ (∀ i j, 0 ≤ i → i < j → j < Nn → nm i < nm j) ∧ (∀ j, 0 ≤ j → j < Nn → 0 ≤ nm j ∧ nm j ≤ 7 ∧ zb ni (nm j).toNat = true) ∧ ∀ b : Nat, b < 8 → zb ni b = true → ∃ j, 0 ≤ j ∧ j < Nn ∧ nm j = b
theorem yw_names_l {ni : Int} : ∀ (d : Nat) (i c : Int) (g : Int → Int) (f : Nat), i + d = 8 → 0 ≤ i → d < f → 0 ≤ c → c ≤ i →
    (∀ a b, 0 ≤ a → a < b → b < c → g a < g b) → (∀ j, 0 ≤ j → j < c → 0 ≤ g j ∧ g j < i ∧ zb ni (g j).toNat = true) → (∀ b : Nat, b < i → zb ni b = true → ∃ j, 0 ≤ j ∧ j < c ∧ g j = b) → ∃ c' g', zf_M_laysNames_l0 ni f i c g = some (c', g') ∧ yw_nmz ni c' g' := by
  intro d
  induction d with
  | zero =>
    intro i c g f e i0 hf c0 c1 h1 h2 h3
    obtain ⟨f, rfl⟩ : ∃ q, f = q + 1 := ⟨f - 1, by omega⟩
    refine ⟨c, g, ?_, ⟨c0, by omega⟩, h1, fun j j0 j1 => ?_, fun b hb => h3 b (by omega)⟩
    · show zf_M_laysNames_l0_b ni (zf_M_laysNames_l0 ni f) i c g = _
      unfold zf_M_laysNames_l0_b
      rw [if_neg (by omega)]
    · obtain ⟨a1, a2, a3⟩ := h2 j j0 j1
      exact ⟨a1, by omega, a3⟩
  | succ d ih =>
    intro i c g f e i0 hf c0 c1 h1 h2 h3
    obtain ⟨f, rfl⟩ : ∃ q, f = q + 1 := ⟨f - 1, by omega⟩
    show ∃ c' g', zf_M_laysNames_l0_b ni (zf_M_laysNames_l0 ni f) i c g = some (c', g') ∧ yw_nmz ni c' g'
    unfold zf_M_laysNames_l0_b
    rw [if_pos (by omega), ze_has2 i0 (by omega), zl_b, zi_w_id (x := i + 1) (by omega) (by omega)]
    by_cases hz : zb ni i.toNat = true
    · rw [if_pos hz, if_neg (show ¬ (1 : Int) = 0 by decide), zl_ci c0 (by omega), zi_w_id (x := c + 1) (by omega) (by omega)]
      refine ih (i + 1) (c + 1) (zv_up g c i) f (by omega) (by omega) (by omega) (by omega) (by omega) (fun a b a0 ab b1 => ?_) (fun j j0 j1 => ?_) (fun b hb hzb => ?_)
      · by_cases w : b = c
        · subst w
          rw [zv_up_s, zv_up_n (by omega)]
          exact (h2 a a0 (by omega)).2.1
        · rw [zv_up_n w, zv_up_n (by omega)]
          exact h1 a b a0 ab (by omega)
      · by_cases w : j = c
        · subst w
          rw [zv_up_s]
          exact ⟨i0, by omega, hz⟩
        · rw [zv_up_n w]
          obtain ⟨a1, a2, a3⟩ := h2 j j0 (by omega)
          exact ⟨a1, by omega, a3⟩
      · by_cases w : (b : Int) = i
        · exact ⟨c, c0, by omega, by rw [zv_up_s]; exact w.symm⟩
        · obtain ⟨j, j0, j1, hj⟩ := h3 b (by omega) hzb
          exact ⟨j, j0, by omega, by rw [zv_up_n (by omega)]; exact hj⟩
    · rw [if_neg hz, if_pos (show (0 : Int) = 0 from rfl)]
      refine ih (i + 1) c g f (by omega) (by omega) (by omega) c0 (by omega) h1 (fun j j0 j1 => ?_) (fun b hb hzb => ?_)
      · obtain ⟨a1, a2, a3⟩ := h2 j j0 j1
        exact ⟨a1, by omega, a3⟩
      · by_cases w : (b : Int) = i
        · rw [← w] at hz
          exact absurd hzb hz
        · exact h3 b (by omega) hzb
theorem yw_names {f0 ni : Int} {g : Int → Int} : ∃ c' g', zf_M_laysNames f0 ni g = some (c', g') ∧ yw_nmz ni c' g' := by
  obtain ⟨c', g', e, h⟩ := yw_names_l (ni := ni) 8 0 0 g zi_fu (by decide) (by decide) (by decide) (by decide) (by decide) (fun a b a0 ab b1 => by omega) (fun j j0 j1 => by omega) (fun b hb => by omega)
  refine ⟨c', g', ?_, h⟩
  unfold zf_M_laysNames
  rw [e, zl_b]
theorem yw_note {Nn ni : Int} {nm X : Int → Int} (hn : yw_nmz ni Nn nm) : ∀ (d : Nat) (j : Int) (g : Int → Int) (f : Nat), Nn - j ≤ d → 0 ≤ j → d < f → (∀ i, 0 ≤ i → i < j → i < Nn → g (nm i) = X i) → ∃ g', zf_M_ways_l2 Nn nm X f j g = some g' ∧ ∀ i, 0 ≤ i → i < Nn → g' (nm i) = X i := by
  intro d
  induction d with
  | zero =>
    intro j g f e j0 hf h
    obtain ⟨f, rfl⟩ : ∃ q, f = q + 1 := ⟨f - 1, by omega⟩
    refine ⟨g, ?_, fun i i0 i1 => h i i0 (by omega) i1⟩
    show zf_M_ways_l2_b Nn nm X (zf_M_ways_l2 Nn nm X f) j g = _
    unfold zf_M_ways_l2_b
    rw [if_neg (by omega)]
  | succ d ih =>
    intro j g f e j0 hf h
    obtain ⟨f, rfl⟩ : ∃ q, f = q + 1 := ⟨f - 1, by omega⟩
    show ∃ g', zf_M_ways_l2_b Nn nm X (zf_M_ways_l2 Nn nm X f) j g = some g' ∧ _
    unfold zf_M_ways_l2_b
    obtain ⟨⟨m0, m1⟩, hi, hr, -⟩ := id hn
    by_cases c : j < Nn
    · obtain ⟨r1, r2, -⟩ := hr j j0 c
      rw [if_pos c, zl_ci j0 (by omega), zl_ci r1 (by omega), zi_w_id (x := j + 1) (by omega) (by omega)]
      refine ih (j + 1) _ f (by omega) (by omega) (by omega) fun i i0 i1 i2 => ?_
      by_cases w : i = j
      · subst w; rw [zv_up_s]
      · rw [zv_up_n (by have := hi i j i0 (by omega) c; omega)]
        exact h i i0 (by omega) i2
    · rw [if_neg c]
      exact ⟨g, rfl, fun i i0 i1 => h i i0 (by omega) i1⟩
section YWL
variable {n ni z Nn most : Int} {fr nm to J nr : Int → Int}
theorem yw_lev (n0 : n ≤ 12) (hn : yw_nmz ni Nn nm) (hm : most ≤ 10000) : ∀ (r : Nat) (k : Nat) (q c : Int) (S0 S g : Int → Int) (f : Nat), k ≤ 24 → q + (r + 1) = Nn → 0 ≤ q → (∀ p, 0 ≤ p → p < q → S p = S0 p ∧ 0 ≤ S0 p ∧ S0 p ≤ 23) → S q = 23 - (k : Int) → 0 ≤ c → c < most → yw_T (r + 1) k + 1 < f →
    ∃ S' g', yw_Q Nn nm c (yw_cat (fun s => cond (yw_ok z n fr nm to J S0 q s) (yw_L (yw_ok z n fr nm to J) r (q + 1) (zv_up S0 q s)) []) k) g g' ∧
      ((c + (yw_cat (fun s => cond (yw_ok z n fr nm to J S0 q s) (yw_L (yw_ok z n fr nm to J) r (q + 1) (zv_up S0 q s)) []) k).length < most ∧ (∀ p, 0 ≤ p → p < q → S' p = S p) ∧ ∃ f', f ≤ f' + yw_T (r + 1) k ∧ zf_M_ways_l0 most Nn z n nm fr to J f c q S g = zf_M_ways_l0 most Nn z n nm fr to J f' (c + (yw_cat (fun s => cond (yw_ok z n fr nm to J S0 q s) (yw_L (yw_ok z n fr nm to J) r (q + 1) (zv_up S0 q s)) []) k).length) (q - 1) S' g') ∨
       (most ≤ c + (yw_cat (fun s => cond (yw_ok z n fr nm to J S0 q s) (yw_L (yw_ok z n fr nm to J) r (q + 1) (zv_up S0 q s)) []) k).length ∧ zf_M_ways_l0 most Nn z n nm fr to J f c q S g = some (most, S', g'))) := by
  obtain ⟨⟨m0, m1⟩, -, -, -⟩ := id hn
  intro r
  induction r with
  | zero =>
    intro k
    induction k using Nat.strongRecOn with
    | ind k ihk =>
      intro q c S0 S g f hk hq q0 hS hSq c0 c1 hf
      obtain ⟨f, rfl⟩ : ∃ q, f = q + 1 := ⟨f - 1, by omega⟩
      obtain ⟨s, e1, s0, s1, s2, s3⟩ := yw_next (n := n) (S := S) (fr := fr) (nm := nm) (to := to) (J := J) (q := q) (z := z) (S0 := S0) n0 q0 (by omega) hS 24 (24 - (k : Int)) zi_fu (by omega) (by omega) (by omega) (by decide)
      have body : zf_M_ways_l0 most Nn z n nm fr to J (f + 1) c q S g = zf_M_ways_l0_b most Nn z n nm fr to J (zf_M_ways_l0 most Nn z n nm fr to J f) c q S g := rfl
      rw [body]
      unfold zf_M_ways_l0_b
      rw [if_neg (show ¬ q < 0 by omega), if_pos c1, zl_ci q0 (by omega), hSq, zi_w_id (x := 23 - (k : Int) + 1) (by omega) (by omega), show 23 - (k : Int) + 1 = 24 - (k : Int) by omega, e1, zl_b]
      have hT : 1 ≤ yw_T (0 + 1) k := by show 1 ≤ 1 + k * (1 + yw_T 0 24); omega
      by_cases w : s = 24
      · have hnil := yw_cat_0 (f := fun s => cond (yw_ok z n fr nm to J S0 q s) (yw_L (yw_ok z n fr nm to J) 0 (q + 1) (zv_up S0 q s)) []) k hk fun t t0 t1 => by show cond (yw_ok z n fr nm to J S0 q t) _ _ = _; rw [s3 t t0 (by omega)]; rfl
        rw [if_pos w, hnil, zi_w_id (x := q - 1) (by omega) (by omega)]
        refine ⟨S, g, yw_Q_0, .inl ⟨by show c + ((0 : Nat) : Int) < most; omega, fun _ _ _ => rfl, f, by omega, ?_⟩⟩
        rw [show c + (([] : List (Int → Int)).length : Int) = c from Int.add_zero c]
      · rw [if_neg w, zi_w_id (x := q + 1) (by omega) (by omega), if_neg (show ¬ q + 1 < Nn by omega), zi_w_id (x := c + 1) (by omega) (by omega)]
        have hcat := yw_cat_s (f := fun s => cond (yw_ok z n fr nm to J S0 q s) (yw_L (yw_ok z n fr nm to J) 0 (q + 1) (zv_up S0 q s)) []) (s := s) (by omega) k hk s0 fun t t0 t1 => by show cond (yw_ok z n fr nm to J S0 q t) _ _ = _; rw [s3 t t0 t1]; rfl
        have hfs : cond (yw_ok z n fr nm to J S0 q s) (yw_L (yw_ok z n fr nm to J) 0 (q + 1) (zv_up S0 q s)) [] = [zv_up S0 q s] := by rw [s2 (by omega)]; rfl
        rw [hfs] at hcat
        rw [hcat]
        have agree : ∀ j, 0 ≤ j → j < Nn → zv_up S q s j = zv_up S0 q s j := fun j j0 j1 => by
          by_cases w : j = q
          · subst w; rw [zv_up_s, zv_up_s]
          · rw [zv_up_n w, zv_up_n w]; exact (hS j j0 (by omega)).1
        have hT2 := yw_T_st (r := 0) (k := k) (k2 := (23 - s).toNat) (by omega)
        have go : ∀ g1, yw_Q Nn nm c [zv_up S0 q s] g g1 → ∃ S' g', yw_Q Nn nm c ([zv_up S0 q s] ++ yw_cat (fun s => cond (yw_ok z n fr nm to J S0 q s) (yw_L (yw_ok z n fr nm to J) 0 (q + 1) (zv_up S0 q s)) []) (23 - s).toNat) g g' ∧
            ((c + (([zv_up S0 q s] ++ yw_cat (fun s => cond (yw_ok z n fr nm to J S0 q s) (yw_L (yw_ok z n fr nm to J) 0 (q + 1) (zv_up S0 q s)) []) (23 - s).toNat).length : Nat) < most ∧ (∀ p, 0 ≤ p → p < q → S' p = S p) ∧ ∃ f', f + 1 ≤ f' + yw_T (0 + 1) k ∧ zf_M_ways_l0 most Nn z n nm fr to J f (c + 1) q (zv_up S q s) g1 = zf_M_ways_l0 most Nn z n nm fr to J f' (c + (([zv_up S0 q s] ++ yw_cat (fun s => cond (yw_ok z n fr nm to J S0 q s) (yw_L (yw_ok z n fr nm to J) 0 (q + 1) (zv_up S0 q s)) []) (23 - s).toNat).length : Nat)) (q - 1) S' g') ∨
             (most ≤ c + (([zv_up S0 q s] ++ yw_cat (fun s => cond (yw_ok z n fr nm to J S0 q s) (yw_L (yw_ok z n fr nm to J) 0 (q + 1) (zv_up S0 q s)) []) (23 - s).toNat).length : Nat) ∧ zf_M_ways_l0 most Nn z n nm fr to J f (c + 1) q (zv_up S q s) g1 = some (most, S', g'))) := by
          intro g1 hQ
          by_cases v : c + 1 < most
          · obtain ⟨S', g', hQ2, h⟩ := ihk (23 - s).toNat (by omega) q (c + 1) S0 (zv_up S q s) g1 f (by omega) hq q0 (fun p p0 p1 => by rw [zv_up_n (by omega)]; exact hS p p0 p1) (by rw [zv_up_s]; omega) (by omega) v (by omega)
            have hl : c + (([zv_up S0 q s] ++ yw_cat (fun s => cond (yw_ok z n fr nm to J S0 q s) (yw_L (yw_ok z n fr nm to J) 0 (q + 1) (zv_up S0 q s)) []) (23 - s).toNat).length : Nat) = c + 1 + (yw_cat (fun s => cond (yw_ok z n fr nm to J S0 q s) (yw_L (yw_ok z n fr nm to J) 0 (q + 1) (zv_up S0 q s)) []) (23 - s).toNat).length := by
              rw [List.length_append, List.length_singleton]; omega
            rw [hl]
            refine ⟨S', g', yw_Q_app c0 hQ hQ2, ?_⟩
            rcases h with ⟨h1, h2, f', h3, h4⟩ | ⟨h1, h2⟩
            · exact .inl ⟨h1, fun p p0 p1 => by rw [h2 p p0 p1, zv_up_n (by omega)], f', by omega, h4⟩
            · exact .inr ⟨h1, h2⟩
          · have hl : most ≤ c + (([zv_up S0 q s] ++ yw_cat (fun s => cond (yw_ok z n fr nm to J S0 q s) (yw_L (yw_ok z n fr nm to J) 0 (q + 1) (zv_up S0 q s)) []) (23 - s).toNat).length : Nat) := by
              rw [List.length_append, List.length_singleton]; omega
            refine ⟨zv_up S q s, g1, yw_Q_cut hQ (by simp), .inr ⟨hl, ?_⟩⟩
            obtain ⟨f, rfl⟩ : ∃ q, f = q + 1 := ⟨f - 1, by omega⟩
            show zf_M_ways_l0_b most Nn z n nm fr to J (zf_M_ways_l0 most Nn z n nm fr to J f) (c + 1) q (zv_up S q s) g1 = _
            unfold zf_M_ways_l0_b
            rw [if_neg (show ¬ q < 0 by omega), if_neg v, show c + 1 = most by omega]
        by_cases v : c = 0
        · rw [if_pos v]
          obtain ⟨g1, e2, h2⟩ := yw_note (X := zv_up S q s) hn 8 0 g zi_fu (by omega) (by decide) (by decide) fun i i0 i1 => by omega
          rw [e2, zl_b]
          refine go g1 ⟨fun _ X hX j j0 j1 => ?_, fun h => ?_⟩
          · have : X = zv_up S0 q s := by simpa using hX.symm
            rw [this, h2 j j0 j1, agree j j0 j1]
          · rcases h with h | h
            · exact absurd v h
            · cases h
        · rw [if_neg v]
          exact go g ⟨fun h => absurd h v, fun _ => rfl⟩
  | succ r ihr =>
    intro k
    induction k using Nat.strongRecOn with
    | ind k ihk =>
      intro q c S0 S g f hk hq q0 hS hSq c0 c1 hf
      obtain ⟨f, rfl⟩ : ∃ q, f = q + 1 := ⟨f - 1, by omega⟩
      obtain ⟨s, e1, s0, s1, s2, s3⟩ := yw_next (n := n) (S := S) (fr := fr) (nm := nm) (to := to) (J := J) (q := q) (z := z) (S0 := S0) n0 q0 (by omega) hS 24 (24 - (k : Int)) zi_fu (by omega) (by omega) (by omega) (by decide)
      have body : zf_M_ways_l0 most Nn z n nm fr to J (f + 1) c q S g = zf_M_ways_l0_b most Nn z n nm fr to J (zf_M_ways_l0 most Nn z n nm fr to J f) c q S g := rfl
      rw [body]
      unfold zf_M_ways_l0_b
      rw [if_neg (show ¬ q < 0 by omega), if_pos c1, zl_ci q0 (by omega), hSq, zi_w_id (x := 23 - (k : Int) + 1) (by omega) (by omega), show 23 - (k : Int) + 1 = 24 - (k : Int) by omega, e1, zl_b]
      have hT : 1 ≤ yw_T (r + 1 + 1) k := by show 1 ≤ 1 + k * (1 + yw_T (r + 1) 24); omega
      by_cases w : s = 24
      · have hnil := yw_cat_0 (f := fun s => cond (yw_ok z n fr nm to J S0 q s) (yw_L (yw_ok z n fr nm to J) (r + 1) (q + 1) (zv_up S0 q s)) []) k hk fun t t0 t1 => by show cond (yw_ok z n fr nm to J S0 q t) _ _ = _; rw [s3 t t0 (by omega)]; rfl
        rw [if_pos w, hnil, zi_w_id (x := q - 1) (by omega) (by omega)]
        refine ⟨S, g, yw_Q_0, .inl ⟨by show c + ((0 : Nat) : Int) < most; omega, fun _ _ _ => rfl, f, by omega, ?_⟩⟩
        rw [show c + (([] : List (Int → Int)).length : Int) = c from Int.add_zero c]
      · rw [if_neg w, zi_w_id (x := q + 1) (by omega) (by omega), if_pos (show q + 1 < Nn by omega), zl_ci (show 0 ≤ q + 1 by omega) (by omega)]
        have hcat := yw_cat_s (f := fun s => cond (yw_ok z n fr nm to J S0 q s) (yw_L (yw_ok z n fr nm to J) (r + 1) (q + 1) (zv_up S0 q s)) []) (s := s) (by omega) k hk s0 fun t t0 t1 => by show cond (yw_ok z n fr nm to J S0 q t) _ _ = _; rw [s3 t t0 t1]; rfl
        have hfs : cond (yw_ok z n fr nm to J S0 q s) (yw_L (yw_ok z n fr nm to J) (r + 1) (q + 1) (zv_up S0 q s)) [] = yw_cat (fun s2 => cond (yw_ok z n fr nm to J (zv_up S0 q s) (q + 1) s2) (yw_L (yw_ok z n fr nm to J) r (q + 1 + 1) (zv_up (zv_up S0 q s) (q + 1) s2)) []) 24 := by rw [s2 (by omega)]; rfl
        rw [hfs] at hcat
        rw [hcat]
        have hT2 := yw_T_st (r := r + 1) (k := k) (k2 := (23 - s).toNat) (by omega)
        obtain ⟨S1, g1, hQ, h⟩ := ihr 24 (q + 1) c (zv_up S0 q s) (zv_up (zv_up S q s) (q + 1) (-1)) g f (Nat.le_refl _) (by omega) (by omega) (fun p p0 p1 => by
          rw [zv_up_n (show p ≠ q + 1 by omega)]
          by_cases w : p = q
          · subst w; rw [zv_up_s, zv_up_s]; exact ⟨rfl, by omega, by omega⟩
          · rw [zv_up_n w, zv_up_n w]; exact hS p p0 (by omega)) (by rw [zv_up_s]; decide) c0 c1 (by omega)
        generalize yw_cat (fun s2 => cond (yw_ok z n fr nm to J (zv_up S0 q s) (q + 1) s2) (yw_L (yw_ok z n fr nm to J) r (q + 1 + 1) (zv_up (zv_up S0 q s) (q + 1) s2)) []) 24 = A at hQ h ⊢
        rcases h with ⟨h1, h2, f', h3, h4⟩ | ⟨h1, h2⟩
        · rw [h4, show q + 1 - 1 = q by omega]
          have hS1 : ∀ p, 0 ≤ p → p < q → S1 p = S p := fun p p0 p1 => by rw [h2 p p0 (by omega), zv_up_n (by omega), zv_up_n (by omega)]
          have hS1q : S1 q = s := by rw [h2 q q0 (by omega), zv_up_n (by omega), zv_up_s]
          obtain ⟨S', g', hQ2, h⟩ := ihk (23 - s).toNat (by omega) q (c + A.length) S0 S1 g1 f' (by omega) hq q0 (fun p p0 p1 => by rw [hS1 p p0 p1]; exact hS p p0 p1) (by rw [hS1q]; omega) (by omega) h1 (by omega)
          have hl : c + ((A ++ yw_cat (fun s => cond (yw_ok z n fr nm to J S0 q s) (yw_L (yw_ok z n fr nm to J) (r + 1) (q + 1) (zv_up S0 q s)) []) (23 - s).toNat).length : Nat) = c + A.length + (yw_cat (fun s => cond (yw_ok z n fr nm to J S0 q s) (yw_L (yw_ok z n fr nm to J) (r + 1) (q + 1) (zv_up S0 q s)) []) (23 - s).toNat).length := by
            rw [List.length_append]; omega
          rw [hl]
          refine ⟨S', g', yw_Q_app c0 hQ hQ2, ?_⟩
          rcases h with ⟨k1, k2, f2, k3, k4⟩ | ⟨k1, k2⟩
          · exact .inl ⟨k1, fun p p0 p1 => by rw [k2 p p0 p1, hS1 p p0 p1], f2, by omega, k4⟩
          · exact .inr ⟨k1, k2⟩
        · have hA : A ≠ [] := fun e => by
            rw [e] at h1
            have : most ≤ c + ((0 : Nat) : Int) := h1
            omega
          refine ⟨S1, g1, yw_Q_cut hQ hA, .inr ⟨?_, h2⟩⟩
          rw [List.length_append]; omega
theorem yw_ways (tl : yk_tl n ni nr fr to) (hn1 : n ≠ 0) (hm1 : 1 ≤ most) (hm : most ≤ 10000) {f0 : Int} {g0 g1 g5 : Int → Int} :
    ∃ r Nn nm S' g', zf_M_ways most f0 ni z n g0 g1 fr to J g5 = some (r, Nn, nm, S', g') ∧ yw_nmz ni Nn nm ∧ 1 ≤ Nn ∧ (∃ L : List (Int → Int), L = yw_L (yw_ok z n fr nm to J) Nn.toNat 0 (fun _ => 0) ∧ r = (if (L.length : Int) < most then (L.length : Int) else most) ∧ yw_Q Nn nm 0 L g5 g') := by
  obtain ⟨⟨n0, n1⟩, hft, -, hz, hb, -⟩ := id tl
  obtain ⟨Nn, nm, e1, hn⟩ := yw_names (f0 := f0) (ni := ni) (g := g0)
  obtain ⟨⟨m0, m1⟩, -, -, hcov⟩ := id hn
  have hN : 1 ≤ Nn := by
    obtain ⟨⟨a0, a1⟩, -⟩ := hft 0 (Int.le_refl _) (by omega)
    obtain ⟨j, j0, j1, -⟩ := hcov (fr 0).toNat (by omega) ((hb _).mpr ⟨0, Int.le_refl _, by omega, .inl (by omega)⟩)
    omega
  obtain ⟨r, hr⟩ : ∃ r : Nat, Nn = r + 1 := ⟨(Nn - 1).toNat, by omega⟩
  have hTf : yw_T (r + 1) 24 + 1 < zi_fu := by
    have : ∀ r : Nat, r < 8 → yw_T (r + 1) 24 + 1 < zi_fu := by decide
    exact this r (by omega)
  obtain ⟨S', g', hQ, h⟩ := yw_lev (n := n) (ni := ni) (z := z) (Nn := Nn) (most := most) (fr := fr) (nm := nm) (to := to) (J := J) n1 hn hm r 24 0 0 (fun _ => 0) (zv_up g1 0 (-1)) g5 zi_fu (Nat.le_refl _) (by omega) (Int.le_refl _) (fun p p0 p1 => by omega) (by rw [zv_up_s]; decide) (Int.le_refl _) (by omega) hTf
  have hL : yw_cat (fun s => cond (yw_ok z n fr nm to J (fun _ => 0) 0 s) (yw_L (yw_ok z n fr nm to J) r (0 + 1) (zv_up (fun _ => 0) 0 s)) []) 24 = yw_L (yw_ok z n fr nm to J) Nn.toNat 0 (fun _ => 0) := by
    rw [show Nn.toNat = r + 1 by omega]; rfl
  rw [hL] at hQ h
  have fin : zf_M_ways most f0 ni z n g0 g1 fr to J g5 = (zf_M_ways_l0 most Nn z n nm fr to J zi_fu 0 0 (zv_up g1 0 (-1)) g5).bind fun q19 => (some (q19.1, Nn, nm, q19.2.1, q19.2.2)) := by
    unfold zf_M_ways
    rw [e1, zl_b]
  rw [fin]
  rcases h with ⟨h1, h2, f', h3, h4⟩ | ⟨h1, h2⟩
  · rw [Int.zero_add] at h1 h4
    obtain ⟨f', rfl⟩ : ∃ q, f' = q + 1 := ⟨f' - 1, by omega⟩
    have h5 : zf_M_ways_l0 most Nn z n nm fr to J (f' + 1) ((yw_L (yw_ok z n fr nm to J) Nn.toNat 0 (fun _ => 0)).length : Int) (0 - 1) S' g' = some (((yw_L (yw_ok z n fr nm to J) Nn.toNat 0 (fun _ => 0)).length : Int), S', g') := by
      show zf_M_ways_l0_b most Nn z n nm fr to J (zf_M_ways_l0 most Nn z n nm fr to J f') _ (0 - 1) S' g' = _
      unfold zf_M_ways_l0_b
      rw [if_pos (by decide)]
    rw [h4, h5, zl_b]
    exact ⟨_, Nn, nm, S', g', rfl, hn, hN, _, rfl, by rw [if_pos h1], hQ⟩
  · rw [Int.zero_add] at h1
    rw [h2, zl_b]
    exact ⟨_, Nn, nm, S', g', rfl, hn, hN, _, rfl, by rw [if_neg (by omega)], hQ⟩
end YWL
