/-! alike, known on the reference's side; named: both sides answer. -/
section YWR
variable {L : zLW} {K V kd fr hf to C mk mf mh mt : Int → Int} {nc tS tL sP lP mc : Int} {t h u cl sc sr ch : Int} {co ro br wc wr m : Int → Int} {T M : Int → Int}
theorem ym_seen (R : yl_R L K V nc tS tL sP lP kd fr hf to mc C mk mf mh mt) (k : yk_sky t h u cl sc sr ch co ro br wc wr m) {p : Int} (p1 : 0 ≤ p) (p2 : p < 288) {g S : Int → Int} : ∃ s' g' S', zf_M_seenFrom p mc m mk g mh mt C S = some (s', g', S') ∧ yv_is L tS t h u cl sc sr co ro br (p % 24) (p / 24) s' := by
  obtain ⟨s', g', S', e1, e2⟩ := ym_seenFrom (g := g) (S := S) (x := p % 24) (y := p / 24) R k (by omega) (by omega) (by omega) (by omega)
  rw [show 24 * (p / 24) + p % 24 = p by omega] at e1
  exact ⟨s', g', S', e1, e2⟩
theorem yw_puts24 {x v : Int} {g : Int → Int} (h0 : 0 ≤ x) (h1 : x < 24) : zh_ok (zf_M_puts_24 x v g) fun _ => True := by
  unfold zf_M_puts_24
  refine zh_bind (Q := fun q => 0 ≤ q.1 ∧ q.1 < 24) (zh_loop2 (F := fun n (a : Int × (Int → Int)) => zf_M_puts_24_l0 v n a.1 a.2) (μ := fun a => a.1.toNat) (I := fun a => 0 ≤ a.1 ∧ a.1 < 24) (fun n a ha kk => ?_) 24 (x, g) zi_fu (by show x.toNat ≤ 24; omega) (by decide) ⟨h0, h1⟩) fun q hq => zh_cond (zi_ix_of hq.1 (by have := hq.2; omega)) (zh_ret trivial)
  obtain ⟨a1, a2⟩ := a
  obtain ⟨b1, b2⟩ := ha
  have b1 : 0 ≤ a1 := b1
  have b2 : a1 < 24 := b2
  show zh_ok (zf_M_puts_24_l0_b v (zf_M_puts_24_l0 v n) a1 a2) _
  unfold zf_M_puts_24_l0_b
  refine zh_ite (fun hi => ?_) fun _ => zh_ret ⟨b1, b2⟩
  rw [zi_w_id (x := a1 - 1) (by omega) (by omega)]
  exact zh_cond (zi_ix_of (by omega) (by omega)) (zh_ite (fun _ => zh_cond (zi_ix_of (by omega) (by omega)) (kk (a1 - 1, _) (by show (a1 - 1).toNat < a1.toNat; omega) ⟨by show 0 ≤ a1 - 1; omega, by show a1 - 1 < 24; omega⟩)) fun _ => zh_ret ⟨b1, b2⟩)
theorem yw_puts12 {x v : Int} {g : Int → Int} (h0 : 0 ≤ x) (h1 : x < 12) : zh_ok (zf_M_puts_12 x v g) fun _ => True := by
  unfold zf_M_puts_12
  refine zh_bind (Q := fun q => 0 ≤ q.1 ∧ q.1 < 12) (zh_loop2 (F := fun n (a : Int × (Int → Int)) => zf_M_puts_12_l0 v n a.1 a.2) (μ := fun a => a.1.toNat) (I := fun a => 0 ≤ a.1 ∧ a.1 < 12) (fun n a ha kk => ?_) 24 (x, g) zi_fu (by show x.toNat ≤ 24; omega) (by decide) ⟨h0, h1⟩) fun q hq => zh_cond (zi_ix_of hq.1 (by have := hq.2; omega)) (zh_ret trivial)
  obtain ⟨a1, a2⟩ := a
  obtain ⟨b1, b2⟩ := ha
  have b1 : 0 ≤ a1 := b1
  have b2 : a1 < 12 := b2
  show zh_ok (zf_M_puts_12_l0_b v (zf_M_puts_12_l0 v n) a1 a2) _
  unfold zf_M_puts_12_l0_b
  refine zh_ite (fun hi => ?_) fun _ => zh_ret ⟨b1, b2⟩
  rw [zi_w_id (x := a1 - 1) (by omega) (by omega)]
  exact zh_cond (zi_ix_of (by omega) (by omega)) (zh_ite (fun _ => zh_cond (zi_ix_of (by omega) (by omega)) (kk (a1 - 1, _) (by show (a1 - 1).toNat < a1.toNat; omega) ⟨by show 0 ≤ a1 - 1; omega, by show a1 - 1 < 12; omega⟩)) fun _ => zh_ret ⟨b1, b2⟩)
theorem yw_mpart (k : yk_sky t h u cl sc sr ch co ro br wc wr m) {p i : Int} (p1 : 0 ≤ p) (p2 : p < 288) (i0 : 0 ≤ i) (i1 : i < 24) : zh_ok (zf_M_partOf p i m) fun _ => True := by
  obtain ⟨-, ⟨⟨h1, h2⟩, k128⟩, -, -, -, -, -, ki⟩ := id k
  obtain ⟨-, ⟨⟨c1, c2⟩, -⟩, -⟩ := ki i i0 i1
  unfold zf_M_partOf zf_M_standsAt
  rw [zi_w_id (x := 0 + i) (by omega) (by omega), Int.zero_add, zl_ci i0 (by omega), k128, zi_w_id (x := m i + h) (by omega) (by omega), zi_rem_eq (by omega) (by omega) (by decide) (by decide), zl_b, zi_rem_eq p1 (by omega) (by decide) (by decide), (ze_toRight (a := p % 24) (b := (m i + h) % 24) (by omega) (by omega) (by omega) (by omega)).1, zl_b, zi_w_id (x := 24 + i) (by omega) (by omega), zi_w_id (x := 48 + i) (by omega) (by omega)]
  exact zh_cond (zi_ix_of (by omega) (by omega)) (zh_cond (zi_ix_of (by omega) (by omega)) (zh_ret trivial))
def yw_pm (N : Int) (g : Int → Int) : Prop := ∀ j, 0 ≤ j → j < N → 0 ≤ g j ∧ g j ≤ 24
theorem yw_mpatch (R : yl_R L K V nc tS tL sP lP kd fr hf to mc C mk mf mh mt) (k : yk_sky t h u cl sc sr ch co ro br wc wr m) {p : Int} (p1 : 0 ≤ p) (p2 : p < 288) {g2 g6 g7 g8 g9 : Int → Int} (hp : yw_pm p g8) :
    zh_ok (zf_M_laysPatch p mc m mk g2 mh mt C g6 g7 g8 g9) fun o => yw_pm (p + 1) o.2.2.2.1 := by
  unfold zf_M_laysPatch
  obtain ⟨s', g', S', e1, -⟩ := ym_seen (g := g2) (S := g6) R k p1 p2
  rw [e1, zl_b]
  dsimp only
  refine zh_bind (Q := fun q => 0 ≤ q.1 ∧ q.1 ≤ 24) (zh_loop (F := fun n i (a : Int × (Int → Int)) => zf_M_laysPatch_l0 p s' m n a.1 i a.2) (N := 24) (I := fun i a => 0 ≤ a.1 ∧ a.1 ≤ i) (fun n i a i0 i1 ha kk => ?_) 24 0 (0, g7) zi_fu (by decide) (by decide) (by decide) (by decide) ⟨Int.le_refl 0, Int.le_refl 0⟩) fun q hq => zh_cond (zi_ix_of p1 (by omega)) (zh_bind (Q := fun _ => True) (zh_loop (F := fun n i (a : Int → Int) => zf_M_laysPatch_l1 p q.1 q.2 n i a) (N := q.1) (I := fun _ _ => True) (fun n i a i0 i1 _ kk => ?_) 24 0 g9 zi_fu (by have := hq.2; omega) (by decide) hq.1 (by decide) trivial) fun q2 _ => zh_ret fun j j0 j1 => ?_)
  · obtain ⟨a1, a2⟩ := a
    obtain ⟨b1, b2⟩ := ha
    have b1 : 0 ≤ a1 := b1
    have b2 : a1 ≤ i := b2
    show zh_ok (zf_M_laysPatch_l0_b p s' m (zf_M_laysPatch_l0 p s' m n) a1 i a2) _
    unfold zf_M_laysPatch_l0_b
    refine zh_ite (fun hi => ?_) fun _ => zh_ret ⟨b1, by show a1 ≤ 24; omega⟩
    rw [ze_has2 i0 (by omega), zl_b, zi_w_id (x := i + 1) (by omega) (by omega), zi_w_id (x := a1 + 1) (by omega) (by omega)]
    exact zh_ite (fun _ => kk (a1, a2) hi ⟨b1, by show a1 ≤ i + 1; omega⟩) fun _ => zh_bind (yw_mpart k p1 p2 i0 hi) fun r5 _ => zh_bind (yw_puts24 b1 (by omega)) fun r6 _ => kk (a1 + 1, r6) hi ⟨by show 0 ≤ a1 + 1; omega, by show a1 + 1 ≤ i + 1; omega⟩
  · show zh_ok (zf_M_laysPatch_l1_b p q.1 q.2 (zf_M_laysPatch_l1 p q.1 q.2 n) i a) _
    unfold zf_M_laysPatch_l1_b
    have := hq.2
    refine zh_ite (fun hi => ?_) fun _ => zh_ret trivial
    rw [zi_w_id (x := i + 1) (by omega) (by omega), zi_w_id (x := 24 * p) (by omega) (by omega), zi_w_id (x := 24 * p + i) (by omega) (by omega)]
    exact zh_cond (zi_ix_of i0 (by omega)) (zh_cond (zi_ix_of (by omega) (by omega)) (kk _ hi trivial))
  · show 0 ≤ zv_up g8 p q.1 j ∧ zv_up g8 p q.1 j ≤ 24
    by_cases e : j = p
    · subst e; rw [zv_up_s]; exact hq
    · rw [zv_up_n e]; exact hp j j0 (by omega)
theorem yw_mpatches (R : yl_R L K V nc tS tL sP lP kd fr hf to mc C mk mf mh mt) (k : yk_sky t h u cl sc sr ch co ro br wc wr m) {g2 g6 g7 g8 g9 : Int → Int} :
    zh_ok (zf_M_laysPatches mc m mk g2 mh mt C g6 g7 g8 g9) fun o => yw_pm 288 o.2.2.2.1 := by
  unfold zf_M_laysPatches
  refine zh_bind (Q := fun o => yw_pm 288 o.2.2.2.1) (zh_loop (F := fun n i (a : (Int → Int) × (Int → Int) × (Int → Int) × (Int → Int) × (Int → Int)) => zf_M_laysPatches_l0 mc m mk mh mt C n i a.1 a.2.1 a.2.2.1 a.2.2.2.1 a.2.2.2.2) (N := 288) (I := fun i a => yw_pm i a.2.2.2.1) (fun n i a i0 i1 ha kk => ?_) 288 0 (g2, g6, g7, g8, g9) zi_fu (by decide) (by decide) (by decide) (by decide) (fun j j0 j1 => by omega)) fun q hq => zh_ret hq
  obtain ⟨a1, a2, a3, a4, a5⟩ := a
  show zh_ok (zf_M_laysPatches_l0_b mc m mk mh mt C (zf_M_laysPatches_l0 mc m mk mh mt C n) i a1 a2 a3 a4 a5) _
  unfold zf_M_laysPatches_l0_b
  refine zh_ite (fun hi => ?_) fun hi => ?_
  rotate_left
  · obtain rfl : i = 288 := by omega
    exact zh_ret ha
  rw [zi_w_id (x := i + 1) (by omega) (by omega)]
  exact zh_bind (yw_mpatch R k i0 hi ha) fun r2 h2 => kk (_, _, _, _, _) hi h2
theorem yw_mAlike {p q : Int} {g0 g1 : Int → Int} (hp : yw_pm 288 g0) (p1 : 0 ≤ p) (p2 : p < 288) (q1 : 0 ≤ q) (q2 : q < 288) : zh_ok (zf_M_areAlike p q g0 g1) fun _ => True := by
  unfold zf_M_areAlike
  obtain ⟨a0, a1⟩ := hp p p1 p2
  refine zh_cond (zi_ix_of p1 (by omega)) (zh_cond (zi_ix_of q1 (by omega)) (zh_ite (fun _ => zh_sum (Q := fun _ => True) (zh_loop (F := fun n i (_ : Unit) => zf_M_areAlike_l0 p q g0 g1 n i) (N := g0 p) (I := fun _ _ => True) (fun n i a i0 i1 _ kk => ?_) 24 0 () zi_fu (by omega) (by decide) a0 (by decide) trivial) (fun _ _ => zh_ret trivial) fun _ _ => zh_ret trivial) fun _ => zh_ret trivial))
  show zh_ok (zf_M_areAlike_l0_b p q g0 g1 (zf_M_areAlike_l0 p q g0 g1 n) i) _
  unfold zf_M_areAlike_l0_b
  refine zh_cond (zi_ix_of p1 (by omega)) (zh_ite (fun hi => ?_) fun _ => zh_ret trivial)
  rw [zi_w_id (x := i + 1) (by omega) (by omega), zi_w_id (x := 24 * p) (by omega) (by omega), zi_w_id (x := 24 * p + i) (by omega) (by omega), zi_w_id (x := 24 * q) (by omega) (by omega), zi_w_id (x := 24 * q + i) (by omega) (by omega)]
  exact zh_cond (zi_ix_of (by omega) (by omega)) (zh_cond (zi_ix_of (by omega) (by omega)) (zh_ite (fun _ => kk () hi trivial) fun _ => zh_ret trivial))
theorem yw_mAlikeFrom {p q : Int} {g0 g1 : Int → Int} (hp : yw_pm 288 g0) (p1 : 0 ≤ p) (p2 : p < 288) (q1 : 0 ≤ q) (q2 : q ≤ 288) : zh_ok (zf_M_alikeFrom p q g0 g1) fun _ => True := by
  unfold zf_M_alikeFrom
  refine zh_sum (Q := fun _ => True) (zh_loop (F := fun n i (_ : Unit) => zf_M_alikeFrom_l0 p g0 g1 n i) (N := 288) (I := fun _ _ => True) (fun n i a i0 i1 _ kk => ?_) 288 q () zi_fu (by omega) q1 q2 (by decide) trivial) (fun _ _ => zh_ret trivial) fun _ _ => zh_ret trivial
  show zh_ok (zf_M_alikeFrom_l0_b p g0 g1 (zf_M_alikeFrom_l0 p g0 g1 n) i) _
  unfold zf_M_alikeFrom_l0_b
  refine zh_ite (fun hi => ?_) fun _ => zh_ret trivial
  rw [zi_w_id (x := i + 1) (by omega) (by omega)]
  exact zh_ite (fun _ => kk () hi trivial) fun _ => zh_bind (yw_mAlike hp p1 p2 i0 hi) fun r _ => zh_ite (fun _ => kk () hi trivial) fun _ => zh_ret trivial
theorem yw_alikeM (R : yl_R L K V nc tS tL sP lP kd fr hf to mc C mk mf mh mt) (k : yk_sky t h u cl sc sr ch co ro br wc wr m) {w : Int} {g2 g6 g7 g8 g9 : Int → Int} : zh_ok (zf_M_alike w mc m mk g2 mh mt C g6 g7 g8 g9) fun _ => True := by
  unfold zf_M_alike
  rw [ze_M_in, zl_b]
  refine zh_ite (fun _ => zh_ret trivial) fun _ => zh_bind (yw_mpatches R k) fun r3 h3 => zh_bind (Q := fun q => q.2 = -1 ∨ (0 ≤ q.2 ∧ q.2 < 288)) (zh_loop (F := fun n i (a : Int × Int) => zf_M_alike_l0 r3.2.2.2.1 r3.2.2.2.2 n a.1 a.2 i) (N := 288) (I := fun _ a => a.2 = -1 ∨ (0 ≤ a.2 ∧ a.2 < 288)) (fun n i a i0 i1 ha kk => ?_) 288 0 (0, -1) zi_fu (by decide) (by decide) (by decide) (by decide) (.inl rfl)) fun q hq => zh_ite (fun _ => zh_ret trivial) fun _ => zh_ite (fun _ => zh_ret trivial) fun hne => zh_ite (fun _ => zh_ret trivial) fun _ => ?_
  · show zh_ok (zf_M_alike_l0_b r3.2.2.2.1 r3.2.2.2.2 (zf_M_alike_l0 r3.2.2.2.1 r3.2.2.2.2 n) a.1 a.2 i) _
    unfold zf_M_alike_l0_b
    refine zh_ite (fun hi => ?_) fun _ => zh_ret ha
    rw [zi_w_id (x := i + 1) (by omega) (by omega)]
    exact zh_cond (zi_ix_of i0 (by omega)) (zh_ite (fun _ => kk (_, _) hi ha) fun _ => zh_bind (yw_mAlikeFrom h3 i0 hi (by decide) (by decide)) fun r7 _ => zh_ite (fun _ => kk (_, _) hi ha) fun _ => zh_ite (fun _ => kk (_, _) hi (.inr ⟨i0, hi⟩)) fun _ => kk (_, _) hi ha)
  · have hq := hq.resolve_left hne
    rw [zi_w_id (x := q.2 + 1) (by omega) (by omega)]
    exact zh_bind (yw_mAlikeFrom h3 hq.1 hq.2 (by omega) (by omega)) fun r _ => zh_ret trivial
theorem yw_mHas {p n : Int} {g0 g1 g2 : Int → Int} (hp : yw_pm 288 g0) (p1 : 0 ≤ p) (p2 : p < 288) (n0 : 0 ≤ n) (n1 : n ≤ 12) : zh_ok (zf_M_hasParts p n g0 g1 g2) fun _ => True := by
  unfold zf_M_hasParts
  obtain ⟨a0, a1⟩ := hp p p1 p2
  refine zh_sum (Q := fun _ => True) (zh_loop (F := fun f i (a : Int) => zf_M_hasParts_l0 p n g0 g1 g2 f a i) (N := n) (I := fun _ a => 0 ≤ a ∧ a ≤ g0 p) (fun f i a i0 i1 ha kk => ?_) 24 0 0 zi_fu (by omega) (by decide) n0 (by decide) ⟨Int.le_refl 0, a0⟩) (fun _ _ => zh_ret trivial) fun _ _ => zh_ret trivial
  show zh_ok (zf_M_hasParts_l0_b p n g0 g1 g2 (zf_M_hasParts_l0 p n g0 g1 g2 f) a i) _
  unfold zf_M_hasParts_l0_b
  refine zh_ite (fun hi => ?_) fun _ => zh_ret trivial
  refine zh_bind (Q := fun q => 0 ≤ q ∧ q ≤ g0 p) (zh_loop (F := fun f j (_ : Unit) => zf_M_hasParts_l1 p i g0 g1 g2 f j) (N := g0 p) (I := fun _ _ => True) (fun f j _ j0 j1 _ k2 => ?_) 24 a () zi_fu (by omega) ha.1 ha.2 (by decide) trivial) fun q hq => ?_
  · show zh_ok (zf_M_hasParts_l1_b p i g0 g1 g2 (zf_M_hasParts_l1 p i g0 g1 g2 f) j) _
    unfold zf_M_hasParts_l1_b
    refine zh_cond (zi_ix_of p1 (by omega)) (zh_ite (fun hj => ?_) fun _ => zh_ret ⟨j0, j1⟩)
    rw [zi_w_id (x := j + 1) (by omega) (by omega), zi_w_id (x := 24 * p) (by omega) (by omega), zi_w_id (x := 24 * p + j) (by omega) (by omega)]
    exact zh_cond (zi_ix_of (by omega) (by omega)) (zh_cond (zi_ix_of i0 (by omega)) (zh_ite (fun _ => k2 () hj trivial) fun _ => zh_ret ⟨j0, j1⟩))
  · obtain ⟨q0, q1⟩ := hq
    rw [zi_w_id (x := i + 1) (by omega) (by omega), zi_w_id (x := q + 1) (by omega) (by omega), zi_w_id (x := 24 * p) (by omega) (by omega), zi_w_id (x := 24 * p + q) (by omega) (by omega)]
    refine zh_cond (zi_ix_of p1 (by omega)) (zh_ite (fun _ => zh_ret trivial) fun hne => zh_cond (zi_ix_of (by omega) (by omega)) (zh_cond (zi_ix_of i0 (by omega)) (zh_ite (fun _ => kk (q + 1) hi ⟨by omega, by omega⟩) fun _ => zh_ret trivial)))
theorem yw_knownM (R : yl_R L K V nc tS tL sP lP kd fr hf to mc C mk mf mh mt) (k : yk_sky t h u cl sc sr ch co ro br wc wr m) {a w n : Int} {g1 g4 g8 g9 g10 g11 : Int → Int} (n0 : 0 ≤ n) (n1 : n ≤ 220) :
    zh_ok (zf_M_known a w n mc M g1 m mk g4 mh mt C g8 g9 g10 g11) fun o => o.2.1 = if zs_in a 1 12 = 0 then n else if zs_in w 0 3 = 0 then n else if n < 3 * a then n else 0 := by
  unfold zf_M_known
  rw [ze_M_in, zl_b]
  refine zh_ite (fun q => zh_ret (by rw [if_pos q])) fun q => ?_
  rw [if_neg q, ze_M_in, zl_b]
  obtain ⟨a1, a2⟩ := zs_in_ne q
  refine zh_ite (fun q2 => zh_ret (by rw [if_pos q2])) fun q2 => ?_
  rw [if_neg q2, zi_w_id (x := 3 * a) (by omega) (by omega)]
  refine zh_ite (fun c => zh_ret (by rw [if_pos c])) fun c => ?_
  rw [if_neg c]
  refine zh_bind (Q := fun _ => True) (zh_loop (F := fun f i (g : Int → Int) => zf_M_known_l0 a M f i g) (N := a) (I := fun _ _ => True) (fun f i g i0 i1 _ kk => ?_) 12 0 g1 zi_fu (by omega) (by decide) (by omega) (by decide) trivial) fun q17 _ => zh_bind (yw_mpatches R k) fun r18 h18 => zh_bind (Q := fun _ => True) (zh_loop (F := fun f i (b : Int × Int) => zf_M_known_l1 a w q17 r18.2.2.2.1 r18.2.2.2.2 f b.1 b.2 i) (N := 288) (I := fun _ _ => True) (fun f i b i0 i1 _ kk => ?_) 288 0 (0, -2) zi_fu (by decide) (by decide) (by decide) (by decide) trivial) fun _ _ => zh_ite (fun _ => zh_ret rfl) fun _ => zh_ret rfl
  · show zh_ok (zf_M_known_l0_b a M (zf_M_known_l0 a M f) i g) _
    unfold zf_M_known_l0_b
    refine zh_ite (fun hi => ?_) fun _ => zh_ret trivial
    rw [zi_w_id (x := 3 * i) (by omega) (by omega), zi_w_id (x := 3 * i + 1) (by omega) (by omega), zi_w_id (x := 3 * i + 2) (by omega) (by omega), zi_w_id (x := i + 1) (by omega) (by omega)]
    exact zh_cond (zi_ix_of (by omega) (by omega)) (zh_cond (zi_ix_of (by omega) (by omega)) (zh_cond (zi_ix_of (by omega) (by omega)) (zh_ite (fun _ => zh_bind (yw_puts12 i0 (by omega)) fun r _ => kk r hi trivial) fun _ => zh_ite (fun _ => zh_bind (yw_puts12 i0 (by omega)) fun r _ => kk r hi trivial) fun _ => zh_ite (fun _ => zh_bind (yw_puts12 i0 (by omega)) fun r _ => kk r hi trivial) fun _ => zh_bind (yw_puts12 i0 (by omega)) fun r _ => kk r hi trivial)))
  · show zh_ok (zf_M_known_l1_b a w q17 r18.2.2.2.1 r18.2.2.2.2 (zf_M_known_l1 a w q17 r18.2.2.2.1 r18.2.2.2.2 f) b.1 b.2 i) _
    unfold zf_M_known_l1_b
    refine zh_ite (fun hi => ?_) fun _ => zh_ret trivial
    rw [zi_w_id (x := i + 1) (by omega) (by omega)]
    have k2 : ∀ x y, zh_ok (zf_M_known_l1 a w q17 r18.2.2.2.1 r18.2.2.2.2 f x y (i + 1)) _ := fun x y => kk (x, y) hi trivial
    exact zh_bind (yw_mHas h18 i0 hi (by omega) (by omega)) fun r _ => zh_ite (fun _ => k2 _ _) fun _ => zh_ite (fun _ => zh_cond (zi_ix_of i0 (by omega)) (zh_ite (fun _ => zh_ite (fun _ => k2 _ _) fun _ => k2 _ _) fun _ => k2 _ _)) fun _ => zh_ite (fun _ => k2 _ _) fun _ => k2 _ _
end YWR
