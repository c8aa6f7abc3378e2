/-! The reference's ways: as many as maps; the first of them. -/
def ym_A (z : Int) (nr J : Int → Int) (ni : Int) : Nat := yc (yc_N nr) (yc_J z J) (yc_ls (zb ni) 8) (fun _ j => zb z j)
/-- a way by what is seen -/
def ym_Y (z : Int) (nr J : Int → Int) (ni : Int) (W : Nat → Nat) : Prop := yc_w (yc_N nr) (yc_J z J) (fun _ j => zb z j) (yc_ls (zb ni) 8) W
/-- the first of the ways -/
def ym_F (z : Int) (nr J : Int → Int) (ni : Int) (W : Nat → Nat) : Prop := ym_Y z nr J ni W ∧ ∀ b : Nat, b < 8 → zb ni b = true → ∀ V, ym_Y z nr J ni V → (∀ c : Nat, c < b → zb ni c = true → V c = W c) → W b ≤ V b
theorem ym_F_u {z : Int} {nr J : Int → Int} {ni : Int} {W V : Nat → Nat} (h1 : ym_F z nr J ni W) (h2 : ym_F z nr J ni V) : ∀ b : Nat, b < 8 → zb ni b = true → W b = V b := by
  intro b
  induction b using Nat.strongRecOn with
  | ind b ih =>
    intro b8 hb
    have l1 := h1.2 b b8 hb V h2.1 fun c c1 c2 => (ih c c1 (by omega) c2).symm
    have l2 := h2.2 b b8 hb W h1.1 fun c c1 c2 => ih c c1 (by omega) c2
    omega
def ym_nl (nm : Int → Int) : Nat → Int → List Nat
  | 0, _ => []
  | r + 1, q => (nm q).toNat :: ym_nl nm r (q + 1)
noncomputable def ym_pr (z : Int) (nr J nm S : Int → Int) (q : Int) (b j : Nat) : Bool := zb z j && @decide (∀ p, 0 ≤ p → p < q → S p ≠ (j : Int) ∧ (zb (nr (nm p)) b = true → zb (J j) (S p).toNat = true)) (Classical.propDecidable _)
theorem ym_pr_t {z : Int} {nr J nm S : Int → Int} {q : Int} {b j : Nat} : ym_pr z nr J nm S q b j = true ↔ zb z j = true ∧ ∀ p, 0 ≤ p → p < q → S p ≠ (j : Int) ∧ (zb (nr (nm p)) b = true → zb (J j) (S p).toNat = true) := by
  unfold ym_pr
  rw [Bool.and_eq_true, decide_eq_true_iff]
theorem yw_ok_t {z n : Int} {fr nm to J S : Int → Int} {q s : Int} : yw_ok z n fr nm to J S q s = true ↔ zb z s.toNat = true ∧ yw_P n S fr nm to J q s := by
  unfold yw_ok
  rw [Bool.and_eq_true, decide_eq_true_iff]
theorem yw_cat_len {α : Type} {f : Int → List α} : ∀ k : Nat, k ≤ 24 → (yw_cat f k).length + yc_sum (fun j => (f (j : Int)).length) (24 - k) = yc_sum (fun j => (f (j : Int)).length) 24
  | 0, _ => by show 0 + _ = _; rw [Nat.zero_add]
  | k + 1, hk => by
    have ih := yw_cat_len (f := f) k (by omega)
    have e : 24 - k = (24 - (k + 1)) + 1 := by omega
    rw [e] at ih
    have ih : (yw_cat f k).length + (yc_sum (fun j => (f (j : Int)).length) (24 - (k + 1)) + (f ((24 - (k + 1) : Nat) : Int)).length) = _ := ih
    show (f (23 - (k : Int)) ++ yw_cat f k).length + _ = _
    rw [List.length_append, show (23 - (k : Int)) = ((24 - (k + 1) : Nat) : Int) by omega]
    omega
theorem yw_cat_head {α : Type} {f : Int → List α} {X : α} : ∀ k : Nat, k ≤ 24 → (yw_cat f k).head? = some X → ∃ s : Int, 24 - (k : Int) ≤ s ∧ s < 24 ∧ (f s).head? = some X ∧ ∀ t : Int, 24 - (k : Int) ≤ t → t < s → f t = []
  | 0, _, h => (by cases h)
  | k + 1, hk, h => by
    have h : (f (23 - (k : Int)) ++ yw_cat f k).head? = some X := h
    cases e : f (23 - (k : Int)) with
    | nil =>
      rw [e] at h
      obtain ⟨s, s1, s2, s3, s4⟩ := yw_cat_head (f := f) k (by omega) h
      refine ⟨s, by omega, s2, s3, fun t t1 t2 => ?_⟩
      by_cases w : t = 23 - (k : Int)
      · rw [w]; exact e
      · exact s4 t (by omega) t2
    | cons x l =>
      rw [e] at h
      exact ⟨23 - (k : Int), by omega, by omega, by rw [e]; exact h, fun t t1 t2 => by omega⟩
theorem yw_cat_ne {α : Type} {f : Int → List α} {s : Int} (hs : f s ≠ []) : ∀ k : Nat, k ≤ 24 → 24 - (k : Int) ≤ s → s < 24 → yw_cat f k ≠ []
  | 0, _, h, h2 => by omega
  | k + 1, hk, h, h2 => by
    show f (23 - (k : Int)) ++ yw_cat f k ≠ []
    intro w
    obtain ⟨w1, w2⟩ := List.append_eq_nil_iff.mp w
    by_cases e : s = 23 - (k : Int)
    · rw [← e] at w1; exact hs w1
    · exact yw_cat_ne hs k (by omega) (by omega) h2 w2
section YCR
variable {n ni z Nn : Int} {fr nm to J nr : Int → Int}
theorem yk_tl_H (tl : yk_tl n ni nr fr to) (hJ : ∀ i : Nat, i < 24 → z24 (J i) ∧ zb (J i) i = false) (hs : ∀ i j : Nat, i < 24 → j < 24 → zb (J i) j = zb (J j) i) : ym_H nr J ∧ ∀ a : Nat, a < 8 → ∀ b, zb (nr a) b = true → b < 8 ∧ zb ni b = true := by
  obtain ⟨-, hft, -, hz, hb, hn⟩ := tl
  have ln : ∀ a : Nat, a < 8 → ∀ b, zb (nr a) b = true → b < 8 ∧ zb ni b = true ∧ b ≠ a := fun a ha b h => by
    obtain ⟨i, i0, i1, hi⟩ := ((hn a (by omega) (by omega)).2 b).mp h
    obtain ⟨⟨a1, a2⟩, ⟨b1, b2⟩, ne⟩ := hft i i0 i1
    refine ⟨by rcases hi with hi | hi <;> omega, (hb b).mpr ⟨i, i0, i1, ?_⟩, fun e => ?_⟩
    · rcases hi with hi | hi
      · exact .inr hi.2
      · exact .inl hi.1
    · rcases hi with hi | hi <;> omega
  refine ⟨⟨fun a ha => ⟨(hn a (by omega) (by omega)).1, ?_, Bool.eq_false_iff.mpr fun w => (ln a ha a w).2.2 rfl⟩, fun a b ha hb2 => ?_, hJ, hs⟩, fun a ha b h => ⟨(ln a ha b h).1, (ln a ha b h).2.1⟩⟩
  · have hz2 := (hn a (by omega) (by omega)).1
    rw [yn_sum hz2.1 (by have := hz2.2; omega) 24]
    have l := yn_lt (f := zb (nr a)) (g := fun b => decide (b < 8)) (k := a) (fun w => (ln a ha a w).2.2 rfl) (decide_eq_true ha) 24 (by omega) fun j _ hj => decide_eq_true (ln a ha j hj).1
    have e : yn_n (fun b => decide (b < 8)) 24 = 8 := by decide
    omega
  · rw [Bool.eq_iff_iff, (hn a (by omega) (by omega)).2 b, (hn b (by omega) (by omega)).2 a]
    constructor
    · rintro ⟨i, i0, i1, hi⟩; exact ⟨i, i0, i1, hi.elim (fun w => .inr w) fun w => .inl w⟩
    · rintro ⟨i, i0, i1, hi⟩; exact ⟨i, i0, i1, hi.elim (fun w => .inr w) fun w => .inl w⟩
theorem yt_ln_b (tl : yk_tl n ni nr fr to) {a b : Int} (a0 : 0 ≤ a) (a1 : a < 8) (b0 : 0 ≤ b) : yt_ln n fr to a b ↔ zb (nr a) b.toNat = true := by
  rw [(tl.2.2.2.2.2 a a0 a1).2 b.toNat, Int.toNat_of_nonneg b0]
theorem yw_L_len (tl : yk_tl n ni nr fr to) (hn : yw_nmz ni Nn nm) (H : ym_H nr J) : ∀ (r : Nat) (q : Int) (S : Int → Int), q + r = Nn → 0 ≤ q → (∀ p, 0 ≤ p → p < q → 0 ≤ S p ∧ S p ≤ 23) →
    (yw_L (yw_ok z n fr nm to J) r q S).length = yc (yc_N nr) (yc_J z J) (ym_nl nm r q) (ym_pr z nr J nm S q) := by
  obtain ⟨⟨m0, m1⟩, hinc, hrg, -⟩ := id hn
  intro r
  induction r with
  | zero => intro q S _ _ _; rfl
  | succ r ih =>
    intro q S hq q0 hS
    obtain ⟨r1, r2, r3⟩ := hrg q q0 (by omega)
    obtain ⟨a, ha⟩ : ∃ a : Nat, nm q = a := ⟨(nm q).toNat, by omega⟩
    have len := yw_cat_len (f := fun s => cond (yw_ok z n fr nm to J S q s) (yw_L (yw_ok z n fr nm to J) r (q + 1) (zv_up S q s)) []) 24 (Nat.le_refl _)
    show (yw_cat (fun s => cond (yw_ok z n fr nm to J S q s) (yw_L (yw_ok z n fr nm to J) r (q + 1) (zv_up S q s)) []) 24).length = yc_sum (fun i => if ym_pr z nr J nm S q (nm q).toNat i = true then yc (yc_N nr) (yc_J z J) (ym_nl nm r (q + 1)) (yc_nw (yc_N nr) (yc_J z J) (ym_pr z nr J nm S q) (nm q).toNat i) else 0) 24
    have len : (yw_cat (fun s => cond (yw_ok z n fr nm to J S q s) (yw_L (yw_ok z n fr nm to J) r (q + 1) (zv_up S q s)) []) 24).length = yc_sum (fun j => (cond (yw_ok z n fr nm to J S q (j : Int)) (yw_L (yw_ok z n fr nm to J) r (q + 1) (zv_up S q (j : Int))) []).length) 24 := len
    rw [len]
    refine yc_sum_cg fun s hs => ?_
    have eok : yw_ok z n fr nm to J S q (s : Int) = ym_pr z nr J nm S q (nm q).toNat s := by
      rw [Bool.eq_iff_iff, yw_ok_t, ym_pr_t]
      show zb z s = true ∧ _ ↔ _
      constructor
      · rintro ⟨h1, h2⟩
        refine ⟨h1, fun p p0 p1 => ⟨(h2 p p0 p1).1, fun w => (h2 p p0 p1).2 ?_⟩⟩
        obtain ⟨y1, y2, -⟩ := hrg p p0 (by omega)
        exact (yt_ln_b tl y1 (by omega) r1).mpr w
      · rintro ⟨h1, h2⟩
        refine ⟨h1, fun p p0 p1 => ⟨(h2 p p0 p1).1, fun w => (h2 p p0 p1).2 ?_⟩⟩
        obtain ⟨y1, y2, -⟩ := hrg p p0 (by omega)
        exact (yt_ln_b tl y1 (by omega) r1).mp w
    rw [eok]
    by_cases c : ym_pr z nr J nm S q (nm q).toNat s = true
    · rw [if_pos c, c]
      show (yw_L (yw_ok z n fr nm to J) r (q + 1) (zv_up S q (s : Int))).length = _
      rw [ih (q + 1) (zv_up S q (s : Int)) (by omega) (by omega) fun p p0 p1 => by
        by_cases e : p = q
        · subst e; rw [zv_up_s]; omega
        · rw [zv_up_n e]; exact hS p p0 (by omega)]
      have mem : ∀ (r2 : Nat) (q2 : Int) (b : Nat), q2 + r2 = Nn → 0 ≤ q2 → b ∈ ym_nl nm r2 q2 → b < 8 := by
        intro r2
        induction r2 with
        | zero => intro q2 b _ _ h; cases h
        | succ r2 ih2 =>
          intro q2 b h1 h2 h
          rcases List.mem_cons.mp h with h | h
          · obtain ⟨y1, y2, -⟩ := hrg q2 h2 (by omega)
            omega
          · exact ih2 (q2 + 1) b (by omega) (by omega) h
      refine yc_cg fun b hb j hj => ?_
      have hb8 := mem r (q + 1) b (by omega) (by omega) hb
      obtain ⟨c1, c2⟩ := ym_pr_t.mp c
      rw [Bool.eq_iff_iff, ym_pr_t, yc_nw_t, ym_pr_t]
      constructor
      · rintro ⟨h1, h2⟩
        have hq2 := h2 q q0 (by omega)
        rw [zv_up_s, Int.toNat_natCast] at hq2
        refine ⟨⟨h1, fun p p0 p1 => ?_⟩, fun e => hq2.1 (by omega), fun w => ?_⟩
        · have := h2 p p0 (by omega)
          rwa [zv_up_n (by omega)] at this
        · obtain ⟨-, -, w3⟩ := yc_N_t.mp w
          rw [Int.toNat_of_nonneg r1] at w3
          exact yc_J_t.mpr ⟨hs, hj, c1, h1, by rw [H.2.2.2 s j hs hj]; exact hq2.2 w3⟩
      · rintro ⟨⟨h1, h2⟩, h3, h4⟩
        refine ⟨h1, fun p p0 p1 => ?_⟩
        by_cases e : p = q
        · subst e
          rw [zv_up_s, Int.toNat_natCast]
          refine ⟨by omega, fun w => ?_⟩
          obtain ⟨-, -, -, -, w5⟩ := yc_J_t.mp (h4 (yc_N_t.mpr ⟨by omega, hb8, by rw [Int.toNat_of_nonneg r1]; exact w⟩))
          rw [H.2.2.2 j s hj hs]; exact w5
        · rw [zv_up_n e]; exact h2 p p0 (by omega)
    · rw [if_neg c, Bool.eq_false_iff.mpr c]; rfl
theorem ym_nl_mem (hn : yw_nmz ni Nn nm) : ∀ (r : Nat) (q : Int) (b : Nat), q + r = Nn → 0 ≤ q → (b ∈ ym_nl nm r q ↔ ∃ j, q ≤ j ∧ j < Nn ∧ nm j = b) := by
  obtain ⟨⟨m0, m1⟩, hinc, hrg, -⟩ := id hn
  intro r
  induction r with
  | zero => intro q b h1 h2; exact ⟨fun h => (by cases h), fun ⟨j, j1, j2, _⟩ => by omega⟩
  | succ r ih =>
    intro q b h1 h2
    obtain ⟨y1, y2, -⟩ := hrg q h2 (by omega)
    show b ∈ (nm q).toNat :: ym_nl nm r (q + 1) ↔ _
    rw [List.mem_cons, ih (q + 1) b (by omega) (by omega)]
    constructor
    · rintro (e | ⟨j, j1, j2, j3⟩)
      · exact ⟨q, Int.le_refl _, by omega, by omega⟩
      · exact ⟨j, by omega, j2, j3⟩
    · rintro ⟨j, j1, j2, j3⟩
      by_cases e : j = q
      · subst e; exact .inl (by omega)
      · exact .inr ⟨j, by omega, j2, j3⟩
theorem ym_nl_nd (hn : yw_nmz ni Nn nm) : ∀ (r : Nat) (q : Int), q + r = Nn → 0 ≤ q → (ym_nl nm r q).Nodup := by
  obtain ⟨⟨m0, m1⟩, hinc, hrg, -⟩ := id hn
  intro r
  induction r with
  | zero => intro q h1 h2; exact List.nodup_nil
  | succ r ih =>
    intro q h1 h2
    refine List.nodup_cons.mpr ⟨fun w => ?_, ih (q + 1) (by omega) (by omega)⟩
    obtain ⟨j, j1, j2, j3⟩ := (ym_nl_mem hn r (q + 1) _ (by omega) (by omega)).mp w
    have := hinc q j h2 (by omega) j2
    obtain ⟨y1, y2, -⟩ := hrg q h2 (by omega)
    omega
theorem yw_L_A (tl : yk_tl n ni nr fr to) (hn : yw_nmz ni Nn nm) (H : ym_H nr J) : (yw_L (yw_ok z n fr nm to J) Nn.toNat 0 (fun _ => 0)).length = ym_A z nr J ni := by
  obtain ⟨⟨m0, m1⟩, hinc, hrg, hcov⟩ := id hn
  rw [yw_L_len tl hn H Nn.toNat 0 _ (by omega) (Int.le_refl _) fun p p0 p1 => by omega]
  unfold ym_A
  rw [yc_set (yc_N_s H) (yc_J_s H) (ym_nl_nd hn Nn.toNat 0 (by omega) (Int.le_refl _)) (yc_ls_nd (f := zb ni) (n := 8)) fun b => ?_]
  · refine yc_cg fun b hb j hj => ?_
    rw [Bool.eq_iff_iff, ym_pr_t]
    exact ⟨fun h => h.1, fun h => ⟨h, fun p p0 p1 => by omega⟩⟩
  · rw [ym_nl_mem hn Nn.toNat 0 b (by omega) (Int.le_refl _), yc_ls_mem]
    constructor
    · rintro ⟨j, j1, j2, j3⟩
      obtain ⟨y1, y2, y3⟩ := hrg j j1 j2
      rw [j3, Int.toNat_natCast] at y3
      exact ⟨by omega, y3⟩
    · rintro ⟨h1, h2⟩; exact hcov b h1 h2
/-- a way goes on -/
theorem yw_L_ne (tl : yk_tl n ni nr fr to) (hn : yw_nmz ni Nn nm) (H : ym_H nr J) {W : Nat → Nat} (hW : ym_Y z nr J ni W) : ∀ (r : Nat) (q : Int) (S : Int → Int), q + r = Nn → 0 ≤ q → (∀ p, 0 ≤ p → p < q → S p = (W (nm p).toNat : Int)) →
    yw_L (yw_ok z n fr nm to J) r q S ≠ [] := by
  obtain ⟨⟨m0, m1⟩, hinc, hrg, hcov⟩ := id hn
  intro r
  induction r with
  | zero => intro q S _ _ _; exact List.cons_ne_nil _ _
  | succ r ih =>
    intro q S hq q0 hS
    obtain ⟨r1, r2, r3⟩ := hrg q q0 (by omega)
    have hm : (nm q).toNat ∈ yc_ls (zb ni) 8 := yc_ls_mem.mpr ⟨by omega, r3⟩
    obtain ⟨w1, w2⟩ := hW.1 _ hm
    refine yw_cat_ne (s := (W (nm q).toNat : Int)) ?_ 24 (Nat.le_refl _) (by omega) (by omega)
    have hok : yw_ok z n fr nm to J S q (W (nm q).toNat : Int) = true := yw_ok_t.mpr ⟨w2, fun p p0 p1 => by
      obtain ⟨y1, y2, y3⟩ := hrg p p0 (by omega)
      have := hinc p q p0 p1 (by omega)
      have hw := hW.2 _ (yc_ls_mem.mpr ⟨by omega, y3⟩) _ hm (show (nm p).toNat ≠ (nm q).toNat by omega)
      rw [hS p p0 p1]
      refine ⟨fun e => hw.1 (by omega), fun l => ?_⟩
      have hl := (yt_ln_b tl y1 (by omega) r1).mp l
      obtain ⟨v1, v2, -, -, v5⟩ := yc_J_t.mp (hw.2 (yc_N_t.mpr ⟨by omega, by omega, by rw [Int.toNat_of_nonneg y1]; exact hl⟩))
      rw [Int.toNat_natCast, H.2.2.2 _ _ v2 v1]; exact v5⟩
    show cond (yw_ok z n fr nm to J S q (W (nm q).toNat : Int)) (yw_L (yw_ok z n fr nm to J) r (q + 1) (zv_up S q (W (nm q).toNat : Int))) [] ≠ []
    rw [hok]
    refine ih (q + 1) _ (by omega) (by omega) fun p p0 p1 => ?_
    by_cases e : p = q
    · subst e; rw [zv_up_s]
    · rw [zv_up_n e]; exact hS p p0 (by omega)
theorem yw_L_head (tl : yk_tl n ni nr fr to) (hn : yw_nmz ni Nn nm) (H : ym_H nr J) : ∀ (r : Nat) (q : Int) (S X : Int → Int), q + r = Nn → 0 ≤ q → (∀ p, 0 ≤ p → p < q → (0 ≤ S p ∧ S p ≤ 23) ∧ yw_ok z n fr nm to J S p (S p) = true) → (yw_L (yw_ok z n fr nm to J) r q S).head? = some X →
    (∀ p, 0 ≤ p → p < q → X p = S p) ∧ (∀ p, 0 ≤ p → p < Nn → (0 ≤ X p ∧ X p ≤ 23) ∧ yw_ok z n fr nm to J X p (X p) = true) ∧ ∀ j, q ≤ j → j < Nn → ∀ W, ym_Y z nr J ni W → (∀ p, 0 ≤ p → p < j → X p = (W (nm p).toNat : Int)) → X j ≤ (W (nm j).toNat : Int) := by
  obtain ⟨⟨m0, m1⟩, hinc, hrg, hcov⟩ := id hn
  intro r
  induction r with
  | zero =>
    intro q S X hq q0 hS h
    have h : some S = some X := h
    cases h
    exact ⟨fun _ _ _ => rfl, fun p p0 p1 => hS p p0 (by omega), fun j j1 j2 => by omega⟩
  | succ r ih =>
    intro q S X hq q0 hS h
    obtain ⟨s, s0, s1, s2, s3⟩ := yw_cat_head 24 (Nat.le_refl _) h
    have s2 : (cond (yw_ok z n fr nm to J S q s) (yw_L (yw_ok z n fr nm to J) r (q + 1) (zv_up S q s)) []).head? = some X := s2
    have s3 : ∀ t : Int, 24 - ((24 : Nat) : Int) ≤ t → t < s → cond (yw_ok z n fr nm to J S q t) (yw_L (yw_ok z n fr nm to J) r (q + 1) (zv_up S q t)) [] = [] := s3
    cases hok : yw_ok z n fr nm to J S q s with
    | false => rw [hok] at s2; cases s2
    | true =>
      rw [hok] at s2
      have agr : ∀ p, 0 ≤ p → p < q → S p = zv_up S q s p := fun p _ p1 => by rw [zv_up_n (by omega)]
      have cg : ∀ p v, p ≤ q → yw_ok z n fr nm to J S p v = true → yw_ok z n fr nm to J (zv_up S q s) p v = true := fun p v p1 w => by
        obtain ⟨w1, w2⟩ := yw_ok_t.mp w
        exact yw_ok_t.mpr ⟨w1, (yw_P_cg fun p' p0' p1' => agr p' p0' (by omega)).mp w2⟩
      obtain ⟨i1, i2, i3⟩ := ih (q + 1) (zv_up S q s) X (by omega) (by omega) (fun p p0 p1 => by
        by_cases e : p = q
        · subst e; rw [zv_up_s]; exact ⟨by omega, cg p s (Int.le_refl _) hok⟩
        · rw [← agr p p0 (by omega)]; exact ⟨(hS p p0 (by omega)).1, cg p _ (by omega) (hS p p0 (by omega)).2⟩) s2
      have eq : X q = s := by rw [i1 q q0 (by omega), zv_up_s]
      have ep : ∀ p, 0 ≤ p → p < q → X p = S p := fun p p0 p1 => by rw [i1 p p0 (by omega), ← agr p p0 p1]
      refine ⟨ep, i2, fun j j1 j2 W hW hX => ?_⟩
      by_cases e : j = q
      · subst e
        by_cases lt : (W (nm j).toNat : Int) < X j
        · obtain ⟨y1, y2, y3⟩ := hrg j q0 (by omega)
          have hm : (nm j).toNat ∈ yc_ls (zb ni) 8 := yc_ls_mem.mpr ⟨by omega, y3⟩
          have h0 := s3 (W (nm j).toNat : Int) (by omega) (by omega)
          have ne := yw_L_ne tl hn H hW (r + 1) j S (by omega) q0 fun p p0 p1 => by rw [← ep p p0 p1]; exact hX p p0 p1
          have ne2 := yw_L_ne tl hn H hW r (j + 1) (zv_up S j (W (nm j).toNat : Int)) (by omega) (by omega) fun p p0 p1 => by
            by_cases e : p = j
            · subst e; rw [zv_up_s]
            · rw [zv_up_n e, ← ep p p0 (by omega)]; exact hX p p0 (by omega)
          have hok2 : yw_ok z n fr nm to J S j (W (nm j).toNat : Int) = true := yw_ok_t.mpr ⟨(hW.1 _ hm).2, fun p p0 p1 => by
            obtain ⟨z1, z2, z3⟩ := hrg p p0 (by omega)
            have := hinc p j p0 p1 (by omega)
            have hw := hW.2 _ (yc_ls_mem.mpr ⟨by omega, z3⟩) _ hm (show (nm p).toNat ≠ (nm j).toNat by omega)
            rw [← ep p p0 p1, hX p p0 p1]
            refine ⟨fun e => hw.1 (by omega), fun l => ?_⟩
            have hl := (yt_ln_b tl z1 (by omega) y1).mp l
            obtain ⟨v1, v2, -, -, v5⟩ := yc_J_t.mp (hw.2 (yc_N_t.mpr ⟨by omega, by omega, by rw [Int.toNat_of_nonneg z1]; exact hl⟩))
            rw [Int.toNat_natCast, H.2.2.2 _ _ v2 v1]; exact v5⟩
          rw [hok2] at h0
          exact absurd h0 ne2
        · omega
      · exact i3 j (by omega) j2 W hW hX
/-- the first of the reference's ways is the first of all -/
theorem yw_L_F (tl : yk_tl n ni nr fr to) (hn : yw_nmz ni Nn nm) (H : ym_H nr J) {X : Int → Int} (h : (yw_L (yw_ok z n fr nm to J) Nn.toNat 0 (fun _ => 0)).head? = some X) : ∃ W, ym_F z nr J ni W ∧ ∀ j, 0 ≤ j → j < Nn → X j = (W (nm j).toNat : Int) := by
  obtain ⟨⟨m0, m1⟩, hinc, hrg, hcov⟩ := id hn
  obtain ⟨-, h2, h3⟩ := yw_L_head tl hn H Nn.toNat 0 _ X (by omega) (Int.le_refl _) (fun p p0 p1 => by omega) h
  have inj : ∀ i j, 0 ≤ i → i < Nn → 0 ≤ j → j < Nn → nm i = nm j → i = j := fun i j i0 i1 j0 j1 e => by
    by_cases a : i < j
    · have := hinc i j i0 a j1; omega
    · by_cases b : j < i
      · have := hinc j i j0 b i1; omega
      · omega
  have ex : ∀ b : Nat, ∃ v : Nat, ∀ j, 0 ≤ j → j < Nn → nm j = b → X j = v := fun b => by
    by_cases c : ∃ j, 0 ≤ j ∧ j < Nn ∧ nm j = b
    · obtain ⟨j, j0, j1, j2⟩ := c
      refine ⟨(X j).toNat, fun i i0 i1 i2 => ?_⟩
      rw [inj i j i0 i1 j0 j1 (by omega), Int.toNat_of_nonneg (h2 j j0 j1).1.1]
    · exact ⟨0, fun j j0 j1 j2 => absurd ⟨j, j0, j1, j2⟩ c⟩
  obtain ⟨W, hW⟩ : ∃ W : Nat → Nat, ∀ b : Nat, ∀ j, 0 ≤ j → j < Nn → nm j = b → X j = W b := ⟨fun b => Classical.choose (ex b), fun b => Classical.choose_spec (ex b)⟩
  have hWX : ∀ j, 0 ≤ j → j < Nn → X j = (W (nm j).toNat : Int) := fun j j0 j1 => hW _ j j0 j1 (Int.toNat_of_nonneg (hrg j j0 j1).1).symm
  have idx : ∀ b : Nat, b < 8 → zb ni b = true → ∃ j, 0 ≤ j ∧ j < Nn ∧ nm j = b ∧ X j = W b := fun b b1 b2 => by
    obtain ⟨j, j0, j1, j2⟩ := hcov b b1 b2
    exact ⟨j, j0, j1, j2, hW b j j0 j1 j2⟩
  refine ⟨W, ⟨⟨fun b hb => ?_, fun b hb c hc hbc => ?_⟩, fun b b1 b2 V hV hVW => ?_⟩, hWX⟩
  · obtain ⟨b1, b2⟩ := yc_ls_mem.mp hb
    obtain ⟨j, j0, j1, j2, j3⟩ := idx b b1 b2
    obtain ⟨⟨k1, k2⟩, k3⟩ := h2 j j0 j1
    have k4 := (yw_ok_t.mp k3).1
    rw [j3, Int.toNat_natCast] at k4
    exact ⟨by omega, k4⟩
  · obtain ⟨b1, b2⟩ := yc_ls_mem.mp hb
    obtain ⟨c1, c2⟩ := yc_ls_mem.mp hc
    obtain ⟨j, j0, j1, j2, j3⟩ := idx b b1 b2
    obtain ⟨i, i0, i1, i2, i3⟩ := idx c c1 c2
    obtain ⟨⟨k1, k2⟩, k3⟩ := h2 j j0 j1
    obtain ⟨⟨l1, l2⟩, l3⟩ := h2 i i0 i1
    obtain ⟨u1, u2⟩ := yw_ok_t.mp k3
    obtain ⟨v1, v2⟩ := yw_ok_t.mp l3
    rw [j3, Int.toNat_natCast] at u1
    rw [i3, Int.toNat_natCast] at v1
    by_cases lt : j < i
    · have q := v2 j j0 lt
      rw [j3, i3, Int.toNat_natCast] at q
      refine ⟨fun e => q.1 (by omega), fun w => yc_J_t.mpr ⟨by omega, by omega, u1, v1, ?_⟩⟩
      rw [H.2.2.2 _ _ (by omega) (by omega)]
      exact q.2 ((yt_ln_b tl (by omega) (by omega) (by omega)).mpr (by rw [j2, i2, Int.toNat_natCast]; exact (yc_N_t.mp w).2.2))
    · have lt : i < j := by
        by_cases e : i = j
        · subst e; omega
        · omega
      have q := u2 i i0 lt
      rw [j3, i3, Int.toNat_natCast] at q
      refine ⟨fun e => q.1 (by omega), fun w => yc_J_t.mpr ⟨by omega, by omega, u1, v1, ?_⟩⟩
      refine q.2 ((yt_ln_b tl (by omega) (by omega) (by omega)).mpr ?_)
      rw [j2, i2, Int.toNat_natCast, H.2.1 c b c1 b1]
      exact (yc_N_t.mp w).2.2
  · obtain ⟨j, j0, j1, j2, j3⟩ := idx b b1 b2
    have q := h3 j j0 j1 V hV fun p p0 p1 => by
      obtain ⟨y1, y2, y3⟩ := hrg p p0 (by omega)
      have := hinc p j p0 p1 j1
      rw [hWX p p0 (by omega), hVW (nm p).toNat (by omega) y3]
    rw [j3, j2, Int.toNat_natCast] at q
    omega
end YCR
