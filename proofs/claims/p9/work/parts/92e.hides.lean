/-! The next set with as many bits is a greater one; hidden, both, log: both sides answer. -/
theorem zh_loop2 {α β : Type} {F : Nat → α → Option β} {μ : α → Nat} {I : α → Prop} {P : β → Prop} (hs : ∀ (n : Nat) (a : α), I a → (∀ a', μ a' < μ a → I a' → zh_ok (F n a') P) → zh_ok (F (n + 1) a) P) :
    ∀ (d : Nat) (a : α) (n : Nat), μ a ≤ d → d < n → I a → zh_ok (F n a) P := by
  intro d
  induction d with
  | zero =>
    intro a n e hn h
    obtain ⟨n, rfl⟩ : ∃ q, n = q + 1 := ⟨n - 1, by omega⟩
    exact hs n a h fun a' hlt _ => by omega
  | succ d ih =>
    intro a n e hn h
    obtain ⟨n, rfl⟩ : ∃ q, n = q + 1 := ⟨n - 1, by omega⟩
    exact hs n a h fun a' hlt h' => ih a' n (by omega) (by omega) h'
theorem zw_low {x : Int} (h1 : 0 < x) (h2 : x < 16777216) : ∃ r : Nat, r < 24 ∧ zb x r = true ∧ (∀ j, j < r → zb x j = false) ∧ zi_and x (zi_w (-x)) = ((2 ^ r : Nat) : Int) ∧ ((2 ^ r : Nat) : Int) ≤ x := by
  have hx : z24 x := ⟨by omega, by omega⟩
  have hex : ∃ j, j < 24 ∧ zb x j = true := by
    by_cases q : ∃ j, j < 24 ∧ zb x j = true
    · exact q
    · have := (z24_z hx).mpr fun j hj => by
        cases c : zb x j
        · rfl
        · exact absurd ⟨j, hj, c⟩ q
      omega
  obtain ⟨r, r1, r2, r3⟩ := yn_low 24 hex
  have hand : zi_and x (zi_w (-x)) = zi_shl 1 r := by
    refine z24_ext (z24_and hx) (z24_shl (by omega) (by omega)) fun j hj => ?_
    rw [zb_and, zb_neg hx.1 (by omega) (by omega), zb_shl (by omega) (by omega), Int.toNat_natCast]
    by_cases e : j = r
    · subst e
      rw [r2, decide_eq_true (rfl : j = j)]
      have : ¬ ∃ i, i < j ∧ zb x i = true := fun ⟨i, a, b⟩ => by rw [r3 i a] at b; cases b
      rw [decide_eq_false this]; rfl
    · rw [decide_eq_false e]
      by_cases c : j < r
      · rw [r3 j c, Bool.false_and]
      · rw [decide_eq_true (⟨r, by omega, r2⟩ : ∃ i, i < j ∧ zb x i = true)]
        cases zb x j <;> rfl
  have hs : zi_shl 1 (r : Int) = ((2 ^ r : Nat) : Int) := by
    have := zi_shl1 (i := (r : Int)) (by omega) (by omega)
    rwa [Int.toNat_natCast] at this
  refine ⟨r, r1, r2, r3, hand.trans hs, ?_⟩
  have hb : x.toNat.testBit r = true := by rw [← zb_tb (by omega) (by omega)]; exact r2
  have := Nat.ge_two_pow_of_testBit hb
  omega
theorem zw_gos {α : Type} {x : Int} {k : Int → Option α} {P : α → Prop} (h1 : 0 < x) (h2 : x < 16777216) (h : ∀ v, x < v → v < 67108864 → zh_ok (k v) P) :
    zh_ok (cond (zi_ne (zi_and x (zi_w (-x)))) (zi_let (zi_or (zi_w (x + (zi_and x (zi_w (-x))))) (zi_shr (zi_div (zi_xor x (zi_w (x + (zi_and x (zi_w (-x)))))) (zi_and x (zi_w (-x)))) 2)) k) none) P := by
  obtain ⟨r, r1, -, -, e, le⟩ := zw_low h1 h2
  have hp : 0 < 2 ^ r := Nat.two_pow_pos r
  rw [e]
  generalize 2 ^ r = p at le hp
  refine zh_cond (zi_ne_of (by omega)) ?_
  rw [zi_w_id (x := x + (p : Int)) (by omega) (by omega)]
  show zh_ok (k (zi_or (x + (p : Int)) (zi_shr (zi_div (zi_xor x (x + (p : Int))) (p : Int)) 2))) P
  have hx := zi_xor_nat (a := x) (b := x + p) (by omega) (by omega) (by omega) (by omega)
  have lx : x.toNat ^^^ (x + (p : Int)).toNat < 2 ^ 25 := Nat.xor_lt_two_pow (by omega) (by omega)
  rw [hx]
  generalize x.toNat ^^^ (x + (p : Int)).toNat = a at lx
  rw [zi_div_eq (by omega) (by omega) (by omega) (by omega)]
  have d1 : 0 ≤ (a : Int) / (p : Int) := Int.ediv_nonneg (by omega) (by omega)
  have d2 : (a : Int) / (p : Int) ≤ a := Int.ediv_le_self _ (by omega)
  generalize (a : Int) / (p : Int) = d at d1 d2
  rw [zi_shr_eq (by omega) (by omega) (by decide) (by decide), show (((2 ^ (2 : Int).toNat : Nat)) : Int) = 4 from rfl]
  have s1 : 0 ≤ d / 4 := by omega
  have s2 : d / 4 ≤ d := by omega
  generalize d / 4 = s at s1 s2
  rw [zi_or_nat (by omega) (by omega) s1 (by omega)]
  have l1 : (x + (p : Int)).toNat ≤ (x + (p : Int)).toNat ||| s.toNat := Nat.left_le_or
  have l2 : (x + (p : Int)).toNat ||| s.toNat < 2 ^ 26 := Nat.or_lt_two_pow (by omega) (by omega)
  generalize (x + (p : Int)).toNat ||| s.toNat = v at l1 l2
  exact h v (by omega) (by omega)
section YWH
variable {L : zLW} {K V kd fr hf to C mk mf mh mt : Int → Int} {nc tS tL sP lP mc : Int} {t h u cl sc sr ch ts n ni p : Int} {co ro br wc wr m gp gl nr tf tt : Int → Int}
theorem yw_hiddenX (R : yl_R L K V nc tS tL sP lP kd fr hf to mc C mk mf mh mt) (k : yk_sky t h u cl sc sr ch co ro br wc wr m) {x y w f5 f6 f7 f10 f16 f18 f24 f25 f26 : Int} {g0 g1 g9 g11 g12 g13 g14 g15 g16 : Int → Int} (hs : yw_so g16) :
    zh_ok (zf_X_hidden x y w n f5 f6 f7 h u f10 t sc sr cl tS f16 nc f18 sP tL lP f24 f25 f26 g0 g1 co ro br kd hf to K g9 V g11 g12 g13 g14 g15 g16) fun o => yw_so o.2.2.2.2.2.2.2.2.2.2.2.2.2.2.2.2 := by
  unfold zf_X_hidden
  rw [ze_X_isPlace, zl_b]
  refine zh_ite (fun _ => zh_ret hs) fun q => ?_
  obtain ⟨x1, x2, y1, y2⟩ := zs_pl_ne q
  rw [ze_X_isWithin, zl_b]
  refine zh_ite (fun _ => zh_ret hs) fun q2 => zh_ite (fun _ => zh_ret hs) fun _ => ?_
  obtain ⟨f3', s', f14', f16', g0', g1', g9', J, g12', e1, i1, l1⟩ := yx_lad (f3 := f5) (f4 := f6) (f5 := f7) (f8 := f10) (f14 := f16) (f16 := f18) (g0 := g0) (g1 := g1) (g9 := g9) (g11 := g11) (g12 := g12) R k x1 (by omega : x ≤ 23) y1 (by omega : y ≤ 11)
  rw [e1, zl_b]
  dsimp only
  exact zh_bind (yw_count hs) fun r hr => zh_ite (fun _ => zh_ret hr) fun _ => zh_bind (yw_fewest hr) fun r9 h9 => zh_ite (fun _ => zh_ret h9) fun _ => zh_ite (fun _ => zh_bind zh_bc fun _ _ => zh_ret h9) fun _ => zh_ret h9
theorem yw_leastM (R : yl_R L K V nc tS tL sP lP kd fr hf to mc C mk mf mh mt) (k : yk_sky t h u cl sc sr ch co ro br wc wr m) (tl : yk_tl n ni nr tf tt) (hn : n ≠ 0) (p1 : 0 ≤ p) (p2 : p < 288) {q may : Int} (q1 : 1 ≤ q) (q2 : q ≤ 4) {f1 f2 : Int} {m1 g2 g6 g7 g8 g9 g12 : Int → Int} (hm : ∀ j, m1 j = m j) :
    zh_ok (zf_M_leastClouds p q may mc f1 f2 ni n m1 mk g2 mh mt C g6 g7 g8 g9 tf tt g12) fun o => ∀ j, o.2.2.2.1 j = m j := by
  unfold zf_M_leastClouds
  have hst : zi_w (zi_shl 1 q - 1) = 1 ∨ zi_w (zi_shl 1 q - 1) = 3 ∨ zi_w (zi_shl 1 q - 1) = 7 ∨ zi_w (zi_shl 1 q - 1) = 15 := by
    have : ∀ q : Nat, q < 5 → 1 ≤ q → zi_w (zi_shl 1 (q : Int) - 1) = 1 ∨ zi_w (zi_shl 1 (q : Int) - 1) = 3 ∨ zi_w (zi_shl 1 (q : Int) - 1) = 7 ∨ zi_w (zi_shl 1 (q : Int) - 1) = 15 := by decide +kernel
    have h := this q.toNat (by omega) (by omega)
    rwa [Int.toNat_of_nonneg (by omega)] at h
  have hwas : m1 130 = cl := by rw [hm]; exact k.2.2.2.1.2
  have hcl := k.2.2.2.1.1
  refine zh_sum (Q := fun q => match q with
    | .inl a => ∀ j, a.2.2.1 j = m j
    | .inr b => ∀ j, b.2.2.2.1 j = m j) (zh_loop2 (F := fun f (a : Int × Int × Int × (Int → Int) × (Int → Int) × (Int → Int) × (Int → Int) × (Int → Int) × (Int → Int) × (Int → Int)) => zf_M_leastClouds_l0 p may (m1 130) mc ni n mk mh mt C tf tt f a.1 a.2.1 a.2.2.1 a.2.2.2.1 a.2.2.2.2.1 a.2.2.2.2.2.1 a.2.2.2.2.2.2.1 a.2.2.2.2.2.2.2.1 a.2.2.2.2.2.2.2.2.1 a.2.2.2.2.2.2.2.2.2) (μ := fun a => (16777216 - a.1).toNat)
      (I := fun a => 0 < a.1 ∧ ∀ j, a.2.2.2.1 j = m j) (fun f a ha kk => ?_) 16777216 (zi_w (zi_shl 1 q - 1), f1, f2, m1, g2, g6, g7, g8, g9, g12) zi_fu (by show (16777216 - zi_w (zi_shl 1 q - 1)).toNat ≤ 16777216; omega) (by decide) ⟨by show 0 < zi_w (zi_shl 1 q - 1); omega, hm⟩) (fun a ha => zh_ret ha) fun b hb => zh_ret hb
  obtain ⟨a1, a2, a3, a4, a5, a6, a7, a8, a9, a10⟩ := a
  obtain ⟨ha0, ha⟩ := ha
  show zh_ok (zf_M_leastClouds_l0_b p may (m1 130) mc ni n mk mh mt C tf tt (zf_M_leastClouds_l0 p may (m1 130) mc ni n mk mh mt C tf tt f) a1 a2 a3 a4 a5 a6 a7 a8 a9 a10) _
  unfold zf_M_leastClouds_l0_b
  have ha0 : 0 < a1 := ha0
  have ha : ∀ j, a4 j = m j := ha
  refine zh_ite (fun hi => zh_ite (fun _ => ?_) fun _ => ?_) fun _ => zh_ret ha
  · have k2 := yk_cl2 (k := k) (c2 := zi_or (m1 130) a1) (h2 := ch) (m2 := zv_up a4 130 (zi_or (m1 130) a1)) (by rw [hwas]; exact z24_or hcl ⟨by omega, by omega⟩) k.2.2.2.2.2.2.1.1.1 k.2.2.2.2.2.2.1.1.2 zv_up_s (by rw [zv_up_n (by decide), ha]; exact k.2.2.2.2.2.2.1.2) (fun j j1 _ => by rw [zv_up_n j1, ha])
    have hm2 : ∀ j, zv_up (zv_up a4 130 (zi_or (m1 130) a1)) 130 (m1 130) j = m j := fun j => by
      by_cases e : j = 130
      · subst e; rw [zv_up_s]; exact hm 130
      · rw [zv_up_n e, zv_up_n e, ha]
    refine zh_bind (yw_cbtM R k2 tl hn p1 p2) fun r5 _ => zh_ite (fun _ => zh_ret hm2) fun _ => zw_gos ha0 hi fun v v1 v2 => ?_
    exact kk (_, _, _, _, _, _, _, _, _, _) (by show (16777216 - v).toNat < (16777216 - a1).toNat; omega) ⟨by show 0 < v; omega, hm2⟩
  · refine zw_gos ha0 hi fun v v1 v2 => ?_
    exact kk (_, _, _, _, _, _, _, _, _, _) (by show (16777216 - v).toNat < (16777216 - a1).toNat; omega) ⟨by show 0 < v; omega, ha⟩
theorem yw_hiddenM (R : yl_R L K V nc tS tL sP lP kd fr hf to mc C mk mf mh mt) (k : yk_sky t h u cl sc sr ch co ro br wc wr m) (tl : yk_tl n ni nr tf tt) {x y w f2 f3 : Int} {g2 g6 g7 g8 g9 g12 : Int → Int} :
    zh_ok (zf_M_hidden x y w n mc f2 f3 ni m mk g2 mh mt C g6 g7 g8 g9 tf tt g12) fun o => ∀ j, o.2.2.2.1 j = m j := by
  unfold zf_M_hidden
  rw [ze_M_isPlace, zl_b]
  refine zh_ite (fun _ => zh_ret fun _ => rfl) fun q => ?_
  obtain ⟨x1, x2, y1, y2⟩ := zs_pl_ne q
  rw [ze_M_in, zl_b]
  refine zh_ite (fun _ => zh_ret fun _ => rfl) fun q2 => zh_ite (fun _ => zh_ret fun _ => rfl) fun hn => ?_
  rw [zi_w_id (x := 24 * y) (by omega) (by omega), zi_w_id (x := 24 * y + x) (by omega) (by omega)]
  refine zh_bind (yw_cbtM R k tl hn (by omega) (by omega)) fun r6 _ => zh_ite (fun _ => zh_ret fun _ => rfl) fun _ => zh_bind (Q := fun _ => True) ?_ fun q12 _ => ?_
  · refine zh_loop (F := fun f i (a : Int) => zf_M_hidden_l0 r6.2.1 m f a i) (N := 24) (I := fun _ _ => True) (fun f i a i0 i1 _ kk => ?_) 24 0 0 zi_fu (by decide) (by decide) (by decide) (by decide) trivial
    show zh_ok (zf_M_hidden_l0_b r6.2.1 m (zf_M_hidden_l0 r6.2.1 m f) a i) _
    unfold zf_M_hidden_l0_b
    refine zh_ite (fun hi => ?_) fun _ => zh_ret trivial
    rw [zi_w_id (x := i + 1) (by omega) (by omega), ze_has2 i0 (by omega), zl_b]
    refine zh_ite (fun _ => kk _ hi trivial) fun _ => ?_
    unfold zf_M_standsAt
    rw [zi_w_id (x := 0 + i) (by omega) (by omega)]
    exact zh_bind (zh_cond (zi_ix_of (by omega) (by omega)) (zh_ret (P := fun _ => True) trivial)) fun _ _ => kk _ hi trivial
  · refine zh_sum (Q := fun q => match q with
      | .inl a => ∀ j, a.2.2.1 j = m j
      | .inr b => ∀ j, b.2.2.2.1 j = m j) (zh_loop (F := fun f i (a : Int × Int × (Int → Int) × (Int → Int) × (Int → Int) × (Int → Int) × (Int → Int) × (Int → Int) × (Int → Int)) => zf_M_hidden_l1 w (24 * y + x) q12 n mc ni mk mh mt C tf tt f i a.1 a.2.1 a.2.2.1 a.2.2.2.1 a.2.2.2.2.1 a.2.2.2.2.2.1 a.2.2.2.2.2.2.1 a.2.2.2.2.2.2.2.1 a.2.2.2.2.2.2.2.2) (N := 5)
        (I := fun i a => 1 ≤ i ∧ ∀ j, a.2.2.1 j = m j) (fun f i a i0 i1 ha kk => ?_) 5 1 (_, _, m, _, _, _, _, _, _) zi_fu (by decide) (by decide) (by decide) (by decide) ⟨by decide, fun _ => rfl⟩) (fun a ha => zh_ret ha) fun b hb => zh_ret hb
    obtain ⟨a1, a2, a3, a4, a5, a6, a7, a8, a9⟩ := a
    obtain ⟨ha0, ha⟩ := ha
    show zh_ok (zf_M_hidden_l1_b w (24 * y + x) q12 n mc ni mk mh mt C tf tt (zf_M_hidden_l1 w (24 * y + x) q12 n mc ni mk mh mt C tf tt f) i a1 a2 a3 a4 a5 a6 a7 a8 a9) _
    unfold zf_M_hidden_l1_b
    refine zh_ite (fun _ => zh_ret ha) fun hi => ?_
    rw [zi_w_id (x := i + 1) (by omega) (by omega)]
    refine zh_bind (yw_leastM R k tl hn (by omega) (by omega) ha0 (by omega) ha) fun r14 h14 => zh_ite (fun _ => ?_) fun _ => zh_ite (fun _ => zh_ret h14) fun _ => zh_ret h14
    exact kk (_, _, _, _, _, _, _, _, _) (by omega) ⟨by omega, h14⟩
/-! both -/
theorem yw_bothX (R : yl_R L K V nc tS tL sP lP kd fr hf to mc C mk mf mh mt) (k : yk_sky t h u cl sc sr ch co ro br wc wr m) {x y w f3 f4 f5 f8 f14 f16 f22 f23 f24 f25 f26 f31 f32 : Int} {g0 g1 g9 g11 g12 g13 g14 g15 g16 g17 g18 g19 : Int → Int} (hs : yw_so g19) :
    zh_ok (zf_X_both x y w f3 f4 f5 h u f8 t sc sr cl tS f14 nc f16 sP tL lP f22 f23 f24 f25 f26 n f31 f32 g0 g1 co ro br kd hf to K g9 V g11 g12 g13 g14 g15 g16 g17 g18 g19) fun o => yw_so o.2.2.2.2.2.2.2.2.2.2.2.2.2.2.2.2.2.2.2.2.2.2.2 := by
  unfold zf_X_both
  rw [ze_X_isWithin, zl_b]
  refine zh_ite (fun _ => zh_ret hs) fun q => ?_
  rw [ze_X_isWithin, zl_b]
  refine zh_ite (fun _ => zh_ret hs) fun q2 => ?_
  rw [ze_X_isWithin, zl_b]
  refine zh_ite (fun _ => zh_ret hs) fun q3 => ?_
  obtain ⟨x1, x2⟩ := zs_in_ne q
  obtain ⟨y1, y2⟩ := zs_in_ne q2
  have tail : zh_ok ((zf_X_columnOf x).bind fun r23 => ((zf_X_rowOf x).bind fun r24 => ((zf_X_lookAndDraw r23 r24 f3 f4 f5 h u f8 t sc sr cl tS f14 nc f16 sP tL lP g0 g1 co ro br kd hf to K g9 V g11 g12).bind fun r25 => ((zf_X_columnOf y).bind fun r26 => ((zf_X_rowOf y).bind fun r27 => ((zf_X_lookAndDraw r26 r27 f22 f23 f24 h u f25 t sc sr cl tS f26 nc r25.2.2.2.2.2.1 sP tL lP g13 r25.2.2.2.2.2.2.2.1 co ro br kd hf to K r25.2.2.2.2.2.2.2.2.1 V g14 g15).bind fun r28 => zf_View_keepShared r25.2.2.2.1 r28.2.2.2.1 r25.2.2.2.2.2.2.2.2.2.1 r28.2.2.2.2.2.2.2.2.2.1)))))) fun o => ∀ j : Nat, j < 24 → z24 (o.2 j) := by
    rw [ze_X_columnOf x1 (by omega), zl_b, ze_X_rowOf x1 (by omega), zl_b]
    obtain ⟨f3', s', f14', f16', g0', g1', g9', J, g12', e1, i1, l1⟩ := yx_lad (f3 := f3) (f4 := f4) (f5 := f5) (f8 := f8) (f14 := f14) (f16 := f16) (g0 := g0) (g1 := g1) (g9 := g9) (g11 := g11) (g12 := g12) (x := x % 24) (y := x / 24) R k (by omega) (by omega) (by omega) (by omega)
    rw [e1, zl_b, ze_X_columnOf y1 (by omega), zl_b, ze_X_rowOf y1 (by omega), zl_b]
    dsimp only
    obtain ⟨f3'', s'', f14'', f16'', g0'', g1'', g9'', J2, g12'', e2, i2, l2⟩ := yx_lad (f3 := f22) (f4 := f23) (f5 := f24) (f8 := f25) (f14 := f26) (f16 := f16') (g0 := g13) (g1 := g1') (g9 := g9') (g11 := g14) (g12 := g15) (x := y % 24) (y := y / 24) R k (by omega) (by omega) (by omega) (by omega)
    rw [e2, zl_b]
    dsimp only
    obtain ⟨g2, e3, h3⟩ := yb_keep (f0 := s') (f1 := s'') (g := J) (g1 := J2)
    exact ⟨_, e3, fun j hj => by show z24 (g2 j); rw [h3 j (by omega) (by omega)]; exact z24_and (l1 j hj).1⟩
  obtain ⟨oo, eo, ho⟩ := tail
  have go : ∀ {Z : Type} (F : (Int × Int × Int × Int × Int × Int × (Int → Int) × (Int → Int) × (Int → Int) × (Int → Int) × (Int → Int)) → (Int × Int × Int × Int × Int × Int × (Int → Int) × (Int → Int) × (Int → Int) × (Int → Int) × (Int → Int)) → (Int × (Int → Int)) → Option Z) (P : Z → Prop), (∀ a b c, (∀ j : Nat, j < 24 → z24 (c.2 j)) → zh_ok (F a b c) P) →
      zh_ok ((zf_X_columnOf x).bind fun r23 => ((zf_X_rowOf x).bind fun r24 => ((zf_X_lookAndDraw r23 r24 f3 f4 f5 h u f8 t sc sr cl tS f14 nc f16 sP tL lP g0 g1 co ro br kd hf to K g9 V g11 g12).bind fun r25 => ((zf_X_columnOf y).bind fun r26 => ((zf_X_rowOf y).bind fun r27 => ((zf_X_lookAndDraw r26 r27 f22 f23 f24 h u f25 t sc sr cl tS f26 nc r25.2.2.2.2.2.1 sP tL lP g13 r25.2.2.2.2.2.2.2.1 co ro br kd hf to K r25.2.2.2.2.2.2.2.2.1 V g14 g15).bind fun r28 => ((zf_View_keepShared r25.2.2.2.1 r28.2.2.2.1 r25.2.2.2.2.2.2.2.2.2.1 r28.2.2.2.2.2.2.2.2.2.1).bind fun r29 => F r25 r28 r29))))))) P := by
    intro Z F P hF
    rw [ze_X_columnOf x1 (by omega), zl_b, ze_X_rowOf x1 (by omega), zl_b] at eo ⊢
    obtain ⟨a, ea, eo⟩ := zi_bind eo
    rw [ea, zl_b]
    rw [ze_X_columnOf y1 (by omega), zl_b, ze_X_rowOf y1 (by omega), zl_b] at eo ⊢
    obtain ⟨b, eb, eo⟩ := zi_bind eo
    rw [eb, zl_b, eo, zl_b]
    exact hF a b oo ho
  refine zh_ite (fun _ => zh_ite (fun _ => zh_ret hs) fun _ => ?_) fun _ => ?_
  · refine go _ _ fun a b c hc => zh_ite (fun _ => zh_bind (yw_count hs) fun r hr => zh_ret hr) fun _ => ?_
    obtain ⟨q, eq, -⟩ := yo_lines (G := c.2) (H := c.2) hc (fun _ _ => rfl)
    rw [eq, zl_b]
    exact zh_ret hs
  · refine go _ _ fun a b c hc => ?_
    obtain ⟨q, eq, -⟩ := yo_lines (G := c.2) (H := c.2) hc (fun _ _ => rfl)
    first
      | exact zh_ite (fun _ => zh_ret hs) fun _ => by rw [eq, zl_b]; exact zh_ret hs
      | exact zh_ite (fun _ => zh_bind (yw_count hs) fun r hr => zh_ret hr) fun _ => zh_ite (fun _ => zh_ret hs) fun _ => by rw [eq, zl_b]; exact zh_ret hs
theorem yw_bothM (R : yl_R L K V nc tS tL sP lP kd fr hf to mc C mk mf mh mt) (k : yk_sky t h u cl sc sr ch co ro br wc wr m) (tl : yk_tl n ni nr tf tt) {x y w f1 f3 : Int} {g2 g6 g7 g8 g9 g10 g13 : Int → Int} :
    zh_ok (zf_M_both x y w mc f1 n f3 ni m mk g2 mh mt C g6 g7 g8 g9 g10 tf tt g13) fun _ => True := by
  unfold zf_M_both
  rw [ze_M_in, zl_b]
  refine zh_ite (fun _ => zh_ret trivial) fun q => ?_
  rw [ze_M_in, zl_b]
  refine zh_ite (fun _ => zh_ret trivial) fun q2 => ?_
  rw [ze_M_in, zl_b]
  refine zh_ite (fun _ => zh_ret trivial) fun q3 => ?_
  obtain ⟨x1, x2⟩ := zs_in_ne q
  obtain ⟨y1, y2⟩ := zs_in_ne q2
  obtain ⟨f3', s', f14', f16', g0', g1', g9', J, g12', e1, i1, l1⟩ := yx_lad (f3 := 0) (f4 := 0) (f5 := 0) (f8 := 0) (f14 := 0) (f16 := 0) (g0 := fun _ => 0) (g1 := fun _ => 0) (g9 := fun _ => 0) (g11 := fun _ => 0) (g12 := fun _ => 0) (x := x % 24) (y := x / 24) R k (by omega) (by omega) (by omega) (by omega)
  obtain ⟨f3'', s'', f14'', f16'', g0'', g1'', g9'', J2, g12'', e2, i2, l2⟩ := yx_lad (f3 := 0) (f4 := 0) (f5 := 0) (f8 := 0) (f14 := 0) (f16 := 0) (g0 := fun _ => 0) (g1 := fun _ => 0) (g9 := fun _ => 0) (g11 := fun _ => 0) (g12 := fun _ => 0) (x := y % 24) (y := y / 24) R k (by omega) (by omega) (by omega) (by omega)
  obtain ⟨g2', g6', H, g8', e3, h3⟩ := ym_both (p := x) (q := y) (f1 := f1) (g2 := g2) (g6 := g6) (g7 := g7) (g8 := g8) R k x1 (by omega) y1 (by omega) i1 l1 i2 l2
  rw [e3, zl_b, zl_b]
  dsimp only
  obtain ⟨c, -, ec, -⟩ := yo_lines (G := H) (H := H) (fun j hj => by rw [h3 j (by omega) (by omega)]; exact z24_and (l1 j hj).1) (fun _ _ => rfl)
  refine zh_ite (fun _ => zh_ite (fun _ => zh_ret trivial) fun hn => ?_) fun _ => zh_ite (fun _ => zh_ret trivial) fun _ => ?_
  · obtain ⟨r, Nn, nm, S2, g3, e4, -⟩ := yw_ways (most := 10000) (z := zi_and s' s'') (J := H) (f0 := f3) (g0 := g9) (g1 := g10) (g5 := g13) tl hn (by decide) (by decide)
    rw [e4, zl_b]
    exact zh_ret trivial
  · rw [ec, zl_b]
    exact zh_ret trivial
end YWH
