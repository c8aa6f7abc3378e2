/-! Loops that end; the matcher's functions answer. -/
theorem zh_loop {α β : Type} {F : Nat → Int → α → Option β} {N : Int} {I : Int → α → Prop} {P : β → Prop}
    (hs : ∀ (n : Nat) (i : Int) (a : α), 0 ≤ i → i ≤ N → I i a → (∀ a', i < N → I (i + 1) a' → zh_ok (F n (i + 1) a') P) → zh_ok (F (n + 1) i a) P) :
    ∀ (d : Nat) (i : Int) (a : α) (n : Nat), N - i ≤ d → 0 ≤ i → i ≤ N → d < n → I i a → zh_ok (F n i a) P := by
  intro d
  induction d with
  | zero =>
    intro i a n e i0 i1 hn h
    obtain ⟨n, rfl⟩ : ∃ q, n = q + 1 := ⟨n - 1, by omega⟩
    exact hs n i a i0 i1 h fun a' hlt _ => by omega
  | succ d ih =>
    intro i a n e i0 i1 hn h
    obtain ⟨n, rfl⟩ : ∃ q, n = q + 1 := ⟨n - 1, by omega⟩
    exact hs n i a i0 i1 h fun a' hlt h' => ih (i + 1) a' n (by omega) (by omega) (by omega) (by omega) h'
theorem zh_ite {α : Type} {c : Prop} {dc : Decidable c} {x y : Option α} {P : α → Prop} (h1 : c → zh_ok x P) (h2 : ¬ c → zh_ok y P) : zh_ok (@ite (Option α) c dc x y) P := by
  by_cases h : c
  · rw [if_pos h]; exact h1 h
  · rw [if_neg h]; exact h2 h
theorem zh_t {α : Type} {x : Option α} {a : α} (h : x = some a) : zh_ok x fun _ => True := ⟨a, h, trivial⟩
theorem zh_bc {x : Int} : zh_ok (zf_Integer_bitCount x) fun _ => True := zh_t rfl
theorem zh_w1 {α : Type} {f : Int → Option α} {P : α → Prop} {i N : Int} (i0 : 0 ≤ i) (hi : i < N) (hN : N ≤ 1000000) (h : zh_ok (f (i + 1)) P) : zh_ok (f (zi_w (i + 1))) P := by
  rw [zi_w_id (x := i + 1) (by omega) (by omega)]; exact h
theorem zh_sum {α β γ : Type} {x : Option (α ⊕ β)} {f : α → Option γ} {g : β → Option γ} {Q : α ⊕ β → Prop} {P : γ → Prop} (h : zh_ok x Q) (h1 : ∀ a, Q (.inl a) → zh_ok (f a) P) (h2 : ∀ b, Q (.inr b) → zh_ok (g b) P) : zh_ok (x.bind fun q => Sum.elim f g q) P := by
  obtain ⟨o, rfl, q⟩ := h
  cases o with
  | inl a => exact h1 a q
  | inr b => exact h2 b q
def yw_so (g : Int → Int) : Prop := ∀ k, 0 ≤ k → k < 8 → 0 ≤ g k ∧ g k ≤ 23
theorem yw_so_up {g : Int → Int} {k v : Int} (h : yw_so g) (v0 : 0 ≤ v) (v1 : v ≤ 23) : yw_so (zv_up g k v) := fun j j0 j1 => by
  by_cases e : j = k
  · subst e; rw [zv_up_s]; omega
  · rw [zv_up_n e]; exact h j j0 j1
theorem yw_withLegs {x1 x2 : Int} {g0 : Int → Int} : zh_ok (zf_Matcher_withLegs x1 x2 g0) fun _ => True := by
  refine zh_bind (Q := fun _ => True) (zh_loop (F := fun n i (a : Int) => zf_Matcher_withLegs_l0 x1 x2 g0 n a i) (N := 24) (I := fun _ _ => True) (fun n i a i0 i1 _ k => ?_) 24 0 0 zi_fu (by decide) (by decide) (by decide) (by decide) trivial) fun o _ => zh_ret trivial
  show zh_ok (zf_Matcher_withLegs_l0_b x1 x2 g0 (zf_Matcher_withLegs_l0 x1 x2 g0 n) a i) _
  unfold zf_Matcher_withLegs_l0_b
  refine zh_ite (fun hi => ?_) fun _ => zh_ret trivial
  rw [zi_w_id (x := i + 1) (by omega) (by omega)]
  refine zh_ite (fun _ => k _ hi trivial) fun _ => zh_cond (zi_ix_of i0 (by omega)) (zh_bind zh_bc fun r4 _ => zh_ite (fun _ => k _ hi trivial) fun _ => k _ hi trivial)
theorem yw_begin {x2 f2 : Int} {g0 g1 g2 g3 : Int → Int} : zh_ok (zf_Matcher_begin_24 x2 f2 g0 g1 g2 g3) fun _ => True := by
  unfold zf_Matcher_begin_24
  refine zh_bind (Q := fun _ => True) (zh_loop (F := fun n i (a : Int → Int) => zf_Matcher_begin_24_l0 x2 g0 g2 n i a) (N := 8) (I := fun _ _ => True) (fun n i a i0 i1 _ k => ?_) 8 0 g1 zi_fu (by decide) (by decide) (by decide) (by decide) trivial) fun o _ =>
    zh_bind (Q := fun _ => True) (zh_loop (F := fun n i (a : Int → Int) => zf_Matcher_begin_24_l1 x2 g0 n i a) (N := 24) (I := fun _ _ => True) (fun n i a i0 i1 _ k => ?_) 24 0 g3 zi_fu (by decide) (by decide) (by decide) (by decide) trivial) fun o _ => zh_ret trivial
  · show zh_ok (zf_Matcher_begin_24_l0_b x2 g0 g2 (zf_Matcher_begin_24_l0 x2 g0 g2 n) i a) _
    unfold zf_Matcher_begin_24_l0_b
    refine zh_ite (fun hi => ?_) fun _ => zh_ret trivial
    rw [zi_w_id (x := i + 1) (by omega) (by omega)]
    exact zh_cond (zi_ix_of i0 (by omega)) (zh_bind zh_bc fun r3 _ => zh_bind yw_withLegs fun r4 _ => zh_cond (zi_ix_of i0 (by omega)) (k _ hi trivial))
  · show zh_ok (zf_Matcher_begin_24_l1_b x2 g0 (zf_Matcher_begin_24_l1 x2 g0 n) i a) _
    unfold zf_Matcher_begin_24_l1_b
    refine zh_ite (fun hi => ?_) fun _ => zh_ret trivial
    rw [zi_w_id (x := i + 1) (by omega) (by omega)]
    refine zh_cond (zi_ix_of i0 (by omega)) (zh_bind (Q := fun _ => True) (zh_loop (F := fun n j (a : Int → Int) => zf_Matcher_begin_24_l2 x2 i g0 n j a) (N := i) (I := fun _ _ => True) (fun n j a j0 j1 _ k2 => ?_) 24 0 _ zi_fu (by omega) (by decide) i0 (by decide) trivial) fun q _ => k _ hi trivial)
    show zh_ok (zf_Matcher_begin_24_l2_b x2 i g0 (zf_Matcher_begin_24_l2 x2 i g0 n) j a) _
    unfold zf_Matcher_begin_24_l2_b
    refine zh_ite (fun hj => ?_) fun _ => zh_ret trivial
    rw [zi_w_id (x := j + 1) (by omega) (by omega)]
    exact zh_ite (fun _ => zh_ret trivial) fun _ => zh_cond (zi_ix_of i0 (by omega)) (zh_cond (zi_ix_of j0 (by omega)) (zh_ite (fun _ => zh_ite (fun _ => k2 _ hj trivial) fun _ => k2 _ hj trivial) fun _ => k2 _ hj trivial))
theorem yw_tightest {x1 x2 : Int} {g0 g1 : Int → Int} (h1 : 0 ≤ x1) (h2 : x1 < 8) : zh_ok (zf_Matcher_tightest x1 x2 g0 g1) fun r => 0 ≤ r ∧ r < 8 := by
  refine zh_bind (Q := fun r => 0 ≤ r ∧ r < 8) (zh_loop (F := fun n i (a : Int × Int) => zf_Matcher_tightest_l0 x1 x2 g0 g1 n a.1 a.2 i) (N := 8) (I := fun _ a => 0 ≤ a.1 ∧ a.1 < 8) (fun n i a i0 i1 ha k => ?_) 8 0 (0, 200) zi_fu (by decide) (by decide) (by decide) (by decide) ⟨by decide, by decide⟩) fun o ho => zh_ret ho
  show zh_ok (zf_Matcher_tightest_l0_b x1 x2 g0 g1 (zf_Matcher_tightest_l0 x1 x2 g0 g1 n) a.1 a.2 i) _
  unfold zf_Matcher_tightest_l0_b
  refine zh_ite (fun hi => ?_) fun _ => zh_ret ha
  rw [zi_w_id (x := i + 1) (by omega) (by omega), zi_w_id (x := x1 * 8) (by omega) (by omega), zi_w_id (x := x1 * 8 + i) (by omega) (by omega)]
  exact zh_ite (fun _ => k a hi ha) fun _ => zh_cond (zi_ix_of (by omega) (by omega)) (zh_bind zh_bc fun r4 _ => zh_cond (zi_ix_of i0 (by omega)) (zh_bind zh_bc fun r6 _ => zh_ite (fun _ => k (_, _) hi ⟨i0, hi⟩) fun _ => k a hi ha))
theorem yw_narrow {x1 x2 x3 x4 : Int} {g0 g1 g2 : Int → Int} (h1 : 0 ≤ x1) (h2 : x1 < 8) (a1 : 0 ≤ x3) (a2 : x3 < 8) (b1 : 0 ≤ x4) (b2 : x4 < 24) : zh_ok (zf_Matcher_narrow x1 x2 x3 x4 g0 g1 g2) fun _ => True := by
  unfold zf_Matcher_narrow
  rw [zi_w_id (x := x1 * 8) (by omega) (by omega), zi_w_id (x := x1 * 8 + 8) (by omega) (by omega)]
  refine zh_sum (Q := fun _ => True) (zh_loop (F := fun n i (a : Int → Int) => zf_Matcher_narrow_l0 x2 x3 x4 (x1 * 8) (x1 * 8 + 8) g1 g2 n i a) (N := 8) (I := fun _ _ => True) (fun n i a i0 i1 _ k => ?_) 8 0 g0 zi_fu (by decide) (by decide) (by decide) (by decide) trivial) (fun a _ => zh_ret trivial) fun b _ => zh_ret trivial
  show zh_ok (zf_Matcher_narrow_l0_b x2 x3 x4 (x1 * 8) (x1 * 8 + 8) g1 g2 (zf_Matcher_narrow_l0 x2 x3 x4 (x1 * 8) (x1 * 8 + 8) g1 g2 n) i a) _
  unfold zf_Matcher_narrow_l0_b
  refine zh_ite (fun hi => ?_) fun _ => zh_ret trivial
  rw [zi_w_id (x := i + 1) (by omega) (by omega), zi_w_id (x := x1 * 8 + i) (by omega) (by omega), zi_w_id (x := x1 * 8 + 8 + i) (by omega) (by omega)]
  exact zh_ite (fun _ => k _ hi trivial) fun _ => zh_cond (zi_ix_of (by omega) (by omega)) (zh_cond (zi_ix_of a1 (by omega)) (zh_ite (fun _ => zh_ite (fun _ => zh_ret trivial) fun _ => zh_cond (zi_ix_of (by omega) (by omega)) (k _ hi trivial)) fun _ => zh_cond (zi_ix_of b1 (by omega)) (zh_ite (fun _ => zh_ret trivial) fun _ => zh_cond (zi_ix_of (by omega) (by omega)) (k _ hi trivial))))
theorem yw_besides {x1 : Int} {g0 : Int → Int} : zh_ok (zf_Matcher_besides x1 g0) fun _ => True := by
  refine zh_bind (Q := fun _ => True) (zh_loop (F := fun n i (a : Int) => zf_Matcher_besides_l0 x1 g0 n a i) (N := 24) (I := fun _ _ => True) (fun n i a i0 i1 _ k => ?_) 24 0 0 zi_fu (by decide) (by decide) (by decide) (by decide) trivial) fun o _ => zh_ret trivial
  show zh_ok (zf_Matcher_besides_l0_b x1 g0 (zf_Matcher_besides_l0 x1 g0 n) a i) _
  unfold zf_Matcher_besides_l0_b
  refine zh_ite (fun hi => ?_) fun _ => zh_ret trivial
  rw [zi_w_id (x := i + 1) (by omega) (by omega)]
  exact zh_ite (fun _ => k _ hi trivial) fun _ => zh_cond (zi_ix_of i0 (by omega)) (k _ hi trivial)
theorem yw_agree2 {x1 x7 v : Int} {g1 g2 : Int → Int} (h1 : 0 ≤ x1) (h2 : x1 ≤ 64) : zh_ok (zf_Matcher_agree_l2 x1 x7 g1 g2 zi_fu v 0) fun _ => True := by
  refine zh_loop (F := fun n i (a : Int) => zf_Matcher_agree_l2 x1 x7 g1 g2 n a i) (N := 8) (I := fun _ _ => True) (fun n i a i0 i1 _ k => ?_) 8 0 v zi_fu (by decide) (by decide) (by decide) (by decide) trivial
  show zh_ok (zf_Matcher_agree_l2_b x1 x7 g1 g2 (zf_Matcher_agree_l2 x1 x7 g1 g2 n) a i) _
  unfold zf_Matcher_agree_l2_b
  refine zh_ite (fun hi => ?_) fun _ => zh_ret trivial
  rw [zi_w_id (x := i + 1) (by omega) (by omega), zi_w_id (x := x1 + i) (by omega) (by omega)]
  exact zh_ite (fun _ => k _ hi trivial) fun _ => zh_cond (zi_ix_of (by omega) (by omega)) (zh_bind yw_besides fun _ _ => k _ hi trivial)
theorem yw_agree {x1 x2 : Int} {g0 g1 g2 : Int → Int} (h1 : 0 ≤ x1) (h2 : x1 ≤ 8) : zh_ok (zf_Matcher_agree x1 x2 g0 g1 g2) fun _ => True := by
  unfold zf_Matcher_agree
  rw [zi_w_id (x := x1 * 8) (by omega) (by omega)]
  obtain ⟨x3, e3⟩ : ∃ x3, x3 = x1 * 8 := ⟨_, rfl⟩
  rw [← e3]
  refine zh_sum (Q := fun _ => True) (zh_loop (F := fun n i (a : Int × (Int → Int)) => zf_Matcher_agree_l0 x2 x3 g0 g2 n a.1 i a.2) (N := 192) (I := fun _ _ => True) (fun n i a i0 i1 _ k => ?_) 192 0 (1, g1) zi_fu (by decide) (by decide) (by decide) (by decide) trivial) (fun a _ => zh_ret trivial) fun b _ => zh_ret trivial
  show zh_ok (zf_Matcher_agree_l0_b x2 x3 g0 g2 (zf_Matcher_agree_l0 x2 x3 g0 g2 n) a.1 i a.2) _
  unfold zf_Matcher_agree_l0_b
  refine zh_ite (fun hi => ?_) fun _ => zh_ret trivial
  rw [zi_w_id (x := i + 1) (by omega) (by omega)]
  refine zh_ite (fun _ => zh_ret trivial) fun _ => zh_sum (Q := fun _ => True) (zh_loop (F := fun n j (a : Int × (Int → Int)) => zf_Matcher_agree_l1 x2 x3 g0 g2 n a.1 j a.2) (N := 8) (I := fun _ _ => True) (fun n j a j0 j1 _ k2 => ?_) 8 0 (0, a.2) zi_fu (by decide) (by decide) (by decide) (by decide) trivial) (fun a _ => k (_, _) hi trivial) fun b _ => zh_ret trivial
  show zh_ok (zf_Matcher_agree_l1_b x2 x3 g0 g2 (zf_Matcher_agree_l1 x2 x3 g0 g2 n) a.1 j a.2) _
  unfold zf_Matcher_agree_l1_b
  refine zh_ite (fun hj => ?_) fun _ => zh_ret trivial
  rw [zi_w_id (x := j + 1) (by omega) (by omega), zi_w_id (x := x3 + j) (by omega) (by omega)]
  have kk : ∀ a b, zh_ok (zf_Matcher_agree_l1 x2 x3 g0 g2 n a (j + 1) b) fun _ => True := fun a b => k2 (a, b) hj trivial
  exact zh_ite (fun _ => zh_cond (zi_ix_of (by omega) (by omega)) (zh_bind (yw_agree2 (by omega) (by omega)) fun q _ => zh_ite (fun _ => zh_ite (fun _ => kk _ _) fun _ => kk _ _) fun _ => kk _ _))
    fun _ => zh_cond (zi_ix_of j0 (by omega)) (zh_cond (zi_ix_of (by omega) (by omega)) (zh_bind (yw_agree2 (by omega) (by omega)) fun q _ => zh_ite (fun _ => zh_ite (fun _ => zh_ite (fun _ => kk _ _) fun _ => kk _ _) fun _ => kk _ _) fun _ => zh_ite (fun _ => zh_ret trivial) fun _ => zh_ite (fun _ => zh_ite (fun _ => kk _ _) fun _ => kk _ _) fun _ => kk _ _))
theorem yw_search_g {g1 g2 g4 : Int → Int} : ∀ (n w : Nat) (x1 x2 x3 f2 : Int) (g0 g3 : Int → Int), 0 ≤ x1 → x1 ≤ 8 → 8 - x1 < n → yw_so g3 → zh_ok (zg_Matcher_search n w x1 x2 x3 f2 g0 g1 g2 g3 g4) fun o => yw_so o.2.2.2 := by
  intro n
  induction n with
  | zero => intro w x1 x2 x3 f2 g0 g3 h1 h2 h3 h4; omega
  | succ n ih =>
    intro w x1 x2 x3 f2 g0 g3 h1 h2 h3 h4
    show zh_ok (zm_Matcher_search (zg_Matcher_search n) x1 x2 x3 f2 g0 g1 g2 g3 g4) _
    unfold zm_Matcher_search
    refine zh_ite (fun _ => zh_ret h4) fun _ => zh_ite (fun h8 => ?_) fun _ => zh_ret h4
    refine zh_bind (yw_tightest h1 h8) fun r4 hr => ?_
    obtain ⟨r0, r1⟩ := hr
    rw [zi_w_id (x := x1 * 8) (by omega) (by omega), zi_w_id (x := x1 * 8 + r4) (by omega) (by omega)]
    refine zh_cond (zi_ix_of (by omega) (by omega)) (zh_bind (Q := fun q => yw_so q.2.2.2) ?_ fun q hq => ?_)
    · refine zh_loop (F := fun n2 i (a : Int × Int × Int × (Int → Int) × (Int → Int)) => zm_Matcher_search_l0 (zg_Matcher_search n) x1 x3 r4 (zi_and x2 (zi_xor (zi_shl 1 r4) (-1))) g1 g2 g4 n2 a.1 a.2.1 i a.2.2.1 a.2.2.2.1 a.2.2.2.2) (N := 24) (I := fun _ a => yw_so a.2.2.2.2) (fun n2 i a i0 i1 ha k => ?_) 24 0 (_, 0, f2, g0, g3) zi_fu (by decide) (by decide) (by decide) (by decide) h4
      show zh_ok (zm_Matcher_search_l0_b (zg_Matcher_search n) x1 x3 r4 (zi_and x2 (zi_xor (zi_shl 1 r4) (-1))) g1 g2 g4 (zm_Matcher_search_l0 (zg_Matcher_search n) x1 x3 r4 (zi_and x2 (zi_xor (zi_shl 1 r4) (-1))) g1 g2 g4 n2) a.1 a.2.1 i a.2.2.1 a.2.2.2.1 a.2.2.2.2) _
      unfold zm_Matcher_search_l0_b
      refine zh_ite (fun hi => ?_) fun _ => zh_ret ha
      rw [zi_w_id (x := i + 1) (by omega) (by omega), zi_w_id (x := x1 + 1) (by omega) (by omega)]
      have kk : ∀ b c d e (g : Int → Int), yw_so g → zh_ok (zm_Matcher_search_l0 (zg_Matcher_search n) x1 x3 r4 (zi_and x2 (zi_xor (zi_shl 1 r4) (-1))) g1 g2 g4 n2 b c (i + 1) d e g) fun q => yw_so q.2.2.2 := fun b c d e g hg => k (b, c, d, e, g) hi hg
      refine zh_ite (fun _ => ?_) fun _ => zh_ret ha
      refine zh_ite (fun _ => kk _ _ _ _ _ ha) fun _ => ?_
      have hu := yw_so_up (k := r4) ha i0 (by omega)
      refine zh_cond (zi_ix_of i0 (by omega)) (zh_bind zh_bc fun r10 _ => zh_cond (zi_ix_of r0 (by omega)) (zh_bind (yw_narrow h1 h8 r0 r1 i0 (by omega)) fun r12 _ => zh_ite (fun _ => kk _ _ _ _ _ hu) fun _ => zh_ite (fun _ => ?_) fun _ => ?_))
      · exact zh_bind (ih 0 (x1 + 1) _ _ _ _ _ (by omega) (by omega) (by omega) hu) fun r15 h15 => kk _ _ _ _ _ h15
      · exact zh_bind (yw_agree (by omega) (by omega)) fun r16 _ => zh_ite (fun _ => kk _ _ _ _ _ hu) fun _ => zh_bind (ih 0 (x1 + 1) _ _ _ _ _ (by omega) (by omega) (by omega) hu) fun r18 h18 => kk _ _ _ _ _ h18
    · rw [ze_Math_min, zl_b]
      exact zh_ret hq
theorem yw_search {x2 x3 f2 : Int} {g0 g1 g2 g3 g4 : Int → Int} (h : yw_so g3) : zh_ok (zf_Matcher_search 0 x2 x3 f2 g0 g1 g2 g3 g4) fun o => yw_so o.2.2.2 := yw_search_g 9 0 0 x2 x3 f2 g0 g3 (by decide) (by decide) (by decide) h
theorem yw_count {x2 x4 f2 f3 : Int} {g0 g1 g2 g3 g4 : Int → Int} (h : yw_so g4) : zh_ok (zf_Matcher_countWays_24 x2 x4 f2 f3 g0 g1 g2 g3 g4) fun o => yw_so o.2.2.2.2 := by
  unfold zf_Matcher_countWays_24
  exact zh_bind yw_begin fun r1 _ => zh_bind (yw_search h) fun r2 h2 => zh_ret h2
theorem yw_settle {x1 f1 f3 : Int} {g0 g1 g2 g3 g4 : Int → Int} (h1 : 0 ≤ x1) (h2 : x1 < 8) (h : yw_so g3) : zh_ok (zf_Matcher_settleLowest x1 f1 f3 g0 g1 g2 g3 g4) fun o => yw_so o.2.2.2 := by
  unfold zf_Matcher_settleLowest
  refine zh_cond (zi_ix_of h1 (by omega)) (zh_sum (Q := fun q => match q with
    | .inl a => yw_so a.2.2
    | .inr b => yw_so b.2.2.2) (zh_loop (F := fun n i (a : Int × (Int → Int) × (Int → Int)) => zf_Matcher_settleLowest_l0 x1 (g0 x1) f1 g1 g2 g4 n i a.1 a.2.1 a.2.2) (N := 24) (I := fun _ a => yw_so a.2.2) (fun n i a i0 i1 ha k => ?_) 24 0 (f3, g0, g3) zi_fu (by decide) (by decide) (by decide) (by decide) h) (fun a ha => zh_ret ha) fun b hb => zh_ret hb)
  show zh_ok (zf_Matcher_settleLowest_l0_b x1 (g0 x1) f1 g1 g2 g4 (zf_Matcher_settleLowest_l0 x1 (g0 x1) f1 g1 g2 g4 n) i a.1 a.2.1 a.2.2) _
  unfold zf_Matcher_settleLowest_l0_b
  refine zh_ite (fun hi => ?_) fun _ => zh_ret ha
  rw [zi_w_id (x := i + 1) (by omega) (by omega)]
  exact zh_ite (fun _ => k a hi ha) fun _ => zh_cond (zi_ix_of h1 (by omega)) (zh_bind (yw_search ha) fun r5 h5 => zh_ite (fun _ => zh_ret h5) fun _ => k (_, _, _) hi h5)
theorem yw_first {x2 f2 f3 : Int} {g0 g1 g2 g3 g4 : Int → Int} (h : yw_so g4) : zh_ok (zf_Matcher_findFirst_24 x2 f2 f3 g0 g1 g2 g3 g4) fun o => yw_so o.2.2.2.2 := by
  unfold zf_Matcher_findFirst_24
  refine zh_bind yw_begin fun r1 _ => zh_sum (Q := fun q => match q with
    | .inl a => yw_so a.2.2
    | .inr b => yw_so b.2.2.2.2) (zh_loop (F := fun n i (a : Int × (Int → Int) × (Int → Int)) => zf_Matcher_findFirst_24_l0 f3 g0 g2 r1.2.2 n i a.1 a.2.1 a.2.2) (N := 8) (I := fun _ a => yw_so a.2.2) (fun n i a i0 i1 ha k => ?_) 8 0 (_, _, g4) zi_fu (by decide) (by decide) (by decide) (by decide) h) (fun a ha => zh_ret ha) fun b hb => zh_ret hb
  show zh_ok (zf_Matcher_findFirst_24_l0_b f3 g0 g2 r1.2.2 (zf_Matcher_findFirst_24_l0 f3 g0 g2 r1.2.2 n) i a.1 a.2.1 a.2.2) _
  unfold zf_Matcher_findFirst_24_l0_b
  refine zh_ite (fun hi => ?_) fun _ => zh_ret ha
  rw [zi_w_id (x := i + 1) (by omega) (by omega)]
  exact zh_ite (fun _ => k a hi ha) fun _ => zh_bind (yw_settle i0 (by omega) ha) fun r4 h4 => zh_ite (fun _ => zh_ret h4) fun _ => k (_, _, _) hi h4
theorem yw_standing {x1 f0 : Int} {g0 : Int → Int} (h1 : 0 ≤ x1) (h2 : x1 ≤ 23) : zh_ok (zf_Sky_standing x1 f0 g0) fun _ => True := zh_cond (zi_ix_of h1 (by omega)) (zh_ret trivial)
theorem yw_notIn {x1 f0 f2 : Int} {g0 : Int → Int} : zh_ok (zf_Matcher_notIn x1 f0 f2 g0) fun _ => True := by
  refine zh_bind (Q := fun _ => True) (zh_loop (F := fun n i (a : Int) => zf_Matcher_notIn_l0 x1 f0 f2 g0 n a i) (N := 24) (I := fun _ _ => True) (fun n i a i0 i1 _ k => ?_) 24 0 0 zi_fu (by decide) (by decide) (by decide) (by decide) trivial) fun o _ => zh_ret trivial
  show zh_ok (zf_Matcher_notIn_l0_b x1 f0 f2 g0 (zf_Matcher_notIn_l0 x1 f0 f2 g0 n) a i) _
  unfold zf_Matcher_notIn_l0_b
  refine zh_ite (fun hi => ?_) fun _ => zh_ret trivial
  rw [zi_w_id (x := i + 1) (by omega) (by omega)]
  exact zh_ite (fun _ => k _ hi trivial) fun _ => zh_bind (yw_standing i0 (by omega)) fun r _ => zh_ite (fun _ => k _ hi trivial) fun _ => k _ hi trivial
theorem yw_colsOf {f0 f1 : Int} {g0 g1 : Int → Int} (h : yw_so g0) : zh_ok (zf_Matcher_columnsOfWay f0 f1 g0 g1) fun _ => True := by
  refine zh_bind (Q := fun _ => True) (zh_loop (F := fun n i (a : Int) => zf_Matcher_columnsOfWay_l0 f0 f1 g0 g1 n a i) (N := 8) (I := fun _ _ => True) (fun n i a i0 i1 _ k => ?_) 8 0 0 zi_fu (by decide) (by decide) (by decide) (by decide) trivial) fun o _ => zh_ret trivial
  show zh_ok (zf_Matcher_columnsOfWay_l0_b f0 f1 g0 g1 (zf_Matcher_columnsOfWay_l0 f0 f1 g0 g1 n) a i) _
  unfold zf_Matcher_columnsOfWay_l0_b
  refine zh_ite (fun hi => ?_) fun _ => zh_ret trivial
  rw [zi_w_id (x := i + 1) (by omega) (by omega)]
  exact zh_ite (fun _ => k _ hi trivial) fun _ => zh_cond (zi_ix_of i0 (by omega)) (zh_bind (yw_standing (h i i0 hi).1 (h i i0 hi).2) fun r _ => k _ hi trivial)
theorem yw_hide_g {f2 f3 f7 : Int} {g0 g1 g3 : Int → Int} : ∀ (n w : Nat) (x3 x4 f0 f6 : Int) (g2 g4 g5 : Int → Int), x4 ≤ 4 → x4 + 1 < n → 0 < n → yw_so g5 → zh_ok (zg_Matcher_hide n w x3 x4 f0 f2 f3 f6 f7 g0 g1 g2 g3 g4 g5) fun o => yw_so o.2.2.2.2 := by
  intro n
  induction n with
  | zero => intro w x3 x4 f0 f6 g2 g4 g5 h0 h1 h2; omega
  | succ n ih =>
    intro w x3 x4 f0 f6 g2 g4 g5 h0 h1 h2 h
    show zh_ok (zm_Matcher_hide (zg_Matcher_hide n) x3 x4 f0 f2 f3 f6 f7 g0 g1 g2 g3 g4 g5) _
    have lp : ∀ (q : Int) (f6 : Int) (g2 g4 g5 : Int → Int), 0 < x4 → yw_so g5 → zh_ok (zm_Matcher_hide_l0 (zg_Matcher_hide n) x3 x4 q f2 f3 f7 g0 g1 g3 zi_fu 0 f0 f6 g2 g4 g5) fun o => yw_so o.2.2.2.2 := by
      intro q f6 g2 g4 g5 hx h
      refine zh_loop (F := fun n2 i (a : Int × Int × (Int → Int) × (Int → Int) × (Int → Int)) => zm_Matcher_hide_l0 (zg_Matcher_hide n) x3 x4 q f2 f3 f7 g0 g1 g3 n2 i a.1 a.2.1 a.2.2.1 a.2.2.2.1 a.2.2.2.2) (N := 24) (I := fun _ a => yw_so a.2.2.2.2) (fun n2 i a i0 i1 ha k => ?_) 24 0 (f0, f6, g2, g4, g5) zi_fu (by decide) (by decide) (by decide) (by decide) h
      show zh_ok (zm_Matcher_hide_l0_b (zg_Matcher_hide n) x3 x4 q f2 f3 f7 g0 g1 g3 (zm_Matcher_hide_l0 (zg_Matcher_hide n) x3 x4 q f2 f3 f7 g0 g1 g3 n2) i a.1 a.2.1 a.2.2.1 a.2.2.2.1 a.2.2.2.2) _
      unfold zm_Matcher_hide_l0_b
      refine zh_ite (fun hi => ?_) fun _ => zh_ret ha
      rw [zi_w_id (x := i + 1) (by omega) (by omega), zi_w_id (x := x4 - 1) (by omega) (by omega)]
      exact zh_ite (fun _ => k a hi ha) fun _ => zh_bind (ih 0 _ (x4 - 1) _ _ _ _ _ (by omega) (by omega) (by omega) ha) fun r9 h9 => k (_, _, _, _, _) hi h9
    have all : zh_ok ((zf_Matcher_notIn x3 f2 f3 g0).bind fun r2 => ((zf_Matcher_countWays_24 r2 1 f6 f7 g1 g2 g3 g4 g5).bind fun r3 => (if r3.1 = 0 then (some (x3, r3.2.1, r3.2.2.1, r3.2.2.2.1, r3.2.2.2.2)) else (if 0 < x4 then ((zf_Matcher_columnsOfWay f7 f3 r3.2.2.2.2 g0).bind fun r6 => ((zm_Matcher_hide_l0 (zg_Matcher_hide n) x3 x4 r6 f2 f3 f7 g0 g1 g3 zi_fu 0 f0 r3.2.1 r3.2.2.1 r3.2.2.2.1 r3.2.2.2.2).bind fun q10 => (some (q10.1, q10.2.1, q10.2.2.1, q10.2.2.2.1, q10.2.2.2.2)))) else (some (f0, r3.2.1, r3.2.2.1, r3.2.2.2.1, r3.2.2.2.2)))))) fun o => yw_so o.2.2.2.2 :=
      zh_bind yw_notIn fun r2 _ => zh_bind (yw_count h) fun r3 h3 => zh_ite (fun _ => zh_ret h3) fun _ => zh_ite (fun hx => zh_bind (yw_colsOf h3) fun r6 _ => zh_bind (lp _ _ _ _ _ hx h3) fun q hq => zh_ret hq) fun _ => zh_ret h3
    unfold zm_Matcher_hide
    exact zh_ite (fun _ => all) fun _ => zh_ite (fun _ => all) fun _ => zh_ret h
theorem yw_fewest {f0 f2 f3 f6 f7 : Int} {g0 g1 g2 g3 g4 g5 : Int → Int} (h : yw_so g5) : zh_ok (zf_Matcher_fewestColumns f0 f2 f3 f6 f7 g0 g1 g2 g3 g4 g5) fun o => yw_so o.2.2.2.2.2 := by
  unfold zf_Matcher_fewestColumns
  refine zh_bind (Q := fun q => yw_so q.2.2.2.2) (zh_loop (F := fun n2 i (a : Int × Int × (Int → Int) × (Int → Int) × (Int → Int)) => zf_Matcher_fewestColumns_l0 f2 f3 f7 g0 g1 g3 n2 i a.1 a.2.1 a.2.2.1 a.2.2.2.1 a.2.2.2.2) (N := 5) (I := fun _ a => yw_so a.2.2.2.2) (fun n2 i a i0 i1 ha k => ?_) 5 1 (-1, f6, g2, g4, g5) zi_fu (by decide) (by decide) (by decide) (by decide) h) fun q hq => zh_ret hq
  show zh_ok (zf_Matcher_fewestColumns_l0_b f2 f3 f7 g0 g1 g3 (zf_Matcher_fewestColumns_l0 f2 f3 f7 g0 g1 g3 n2) i a.1 a.2.1 a.2.2.1 a.2.2.2.1 a.2.2.2.2) _
  unfold zf_Matcher_fewestColumns_l0_b
  refine zh_ite (fun _ => zh_ret ha) fun hi => zh_ite (fun _ => ?_) fun _ => zh_ret ha
  rw [zi_w_id (x := i + 1) (by omega) (by omega)]
  exact zh_bind (yw_hide_g 6 0 0 i _ _ _ _ _ (by omega) (by omega) (by decide) ha) fun r3 h3 => k (_, _, _, _, _) (by omega) h3
