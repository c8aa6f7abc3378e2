/-! 93r.hides, 93s.log, 93t.bits28, 93u.cover, 93v.fewest, 93w.named, 94a.cons -/
section
/-! hidden, on the reference's side; alike. -/
theorem yw_ands {x may : Int} (hx : z24 x) : zi_and x (zi_xor may (-1)) = 0 ↔ ∀ j, zb x j = true → zb may j = true := by
  rw [z24_z (z24_and hx)]
  constructor
  · intro h j hj
    have j24 : j < 24 := by
      by_cases c : j < 24
      · exact c
      · rw [z24_b hx (by omega)] at hj; cases hj
    have := h j j24
    rw [zb_and, zb_not (by omega), hj, Bool.true_and, Bool.not_eq_false'] at this
    exact this
  · intro h j hj
    rw [zb_and, zb_not (by omega)]
    cases e : zb x j
    · rfl
    · rw [h j e]; rfl
theorem ym_A_il {z v : Int} {D : Nat → Nat → Bool} {nr J J2 : Int → Int} {ni : Int} (h1 : yv_il z D J) (h2 : yv_il v D J2) (hv : ∀ j, zb v j = true → zb z j = true) : ym_A v nr J2 ni = ym_A v nr J ni := by
  have e : yc_J v J2 = yc_J v J := by
    funext i j
    rw [Bool.eq_iff_iff, yc_J_t, yc_J_t]
    have key : i < 24 → j < 24 → zb v i = true → zb v j = true → zb (J2 i) j = zb (J i) j := fun hi hj vi vj => by
      rw [(h2 i hi).2, (h1 i hi).2]
      unfold yv_lk
      rw [vi, vj, hv i vi, hv j vj]
    constructor
    · rintro ⟨p, q, r, s, t⟩; exact ⟨p, q, r, s, by rw [← key p q r s]; exact t⟩
    · rintro ⟨p, q, r, s, t⟩; exact ⟨p, q, r, s, by rw [key p q r s]; exact t⟩
  unfold ym_A
  rw [e]
section YTM
variable {L : zLW} {K V kd fr hf to C mk mf mh mt : Int → Int} {nc tS tL sP lP mc : Int} {t h u cl sc sr ch ts n ni p z : Int} {co ro br wc wr m gp gl nr tf tt J : Int → Int}
theorem ym_is_cl {x y c v : Int} (hz : yv_is L tS t h u cl sc sr co ro br x y z) (hv : ym_ni z h co c v) : yv_is L tS t h u (zi_or cl c) sc sr co ro br x y v := by
  refine ⟨hv.1, fun j => ?_⟩
  rw [hv.2, hz.2]
  unfold yv_see
  rw [zb_or]
  generalize decide (yg_cb (yv_st h co (j : Int)) x ≤ sc ∧ yg_ab (ro (j : Int) - y) ≤ sr) = b1
  generalize (decide (tS = 0) || yl_any L 118 (yv_lt h u (j : Int) (br (j : Int)) (ro (j : Int)) (yv_st h co (j : Int)) x y (yg_cb (yv_st h co (j : Int)) x + yg_ab (ro (j : Int) - y)))) = b2
  generalize zb cl (yv_st h co (j : Int)).toNat = b3
  generalize zb c (yv_st h co (j : Int)).toNat = b4
  generalize zb t j = b5
  generalize decide (j < 24) = b6
  cases b1 <;> cases b2 <;> cases b3 <;> cases b4 <;> cases b5 <;> cases b6 <;> rfl
theorem ym_tv_cl (hz : yv_is L tS t h u cl sc sr co ro br (p % 24) (p / 24) z) (hJ : yv_il z (yv_D L h u co ro br (p % 24) (p / 24)) J) (hc : ∀ i : Int, 0 ≤ i → i < 24 → 0 ≤ co i ∧ co i ≤ 23) (h0 : 0 ≤ h) (h1 : h ≤ 23) {c : Int} (hex : ∃ z2 J2, yv_is L tS t h u (zi_or cl c) sc sr co ro br (p % 24) (p / 24) z2 ∧ yv_il z2 (yv_D L h u co ro br (p % 24) (p / 24)) J2) :
    ym_tv L tS t h u (zi_or cl c) sc sr co ro br nr ni p ↔ ¬ ym_P z h co nr J ni c := by
  obtain ⟨v, -, hv⟩ := ym_notIn (c := c) hz.1 hc h0 h1
  obtain ⟨z2, J2, h2, h3⟩ := hex
  have e := yv_is_eq h2 (ym_is_cl hz hv)
  subst e
  have hsub : ∀ j, zb z2 j = true → zb z j = true := fun j hj => by
    rw [hv.2, Bool.and_eq_true, Bool.and_eq_true] at hj
    exact hj.2.1
  rw [ym_tv_i h2 h3, ym_A_il hJ h3 hsub]
  constructor
  · intro hp hP
    have := hP z2 hv
    omega
  · intro hn
    by_cases q : 0 < ym_A z2 nr J ni
    · exact q
    · refine absurd (fun s hs => ?_) hn
      rw [ym_ni_u hs hv]
      omega
theorem ym_P_0 (hz : z24 z) : ym_P z h co nr J ni 0 ↔ ym_A z nr J ni = 0 := by
  have e : ym_ni z h co 0 z := ⟨hz, fun j => by
    rw [zb_0, Bool.not_false, Bool.and_true]
    by_cases hj : j < 24
    · rw [decide_eq_true hj, Bool.true_and]
    · rw [decide_eq_false hj, Bool.false_and, z24_b hz (by omega)]⟩
  exact ⟨fun hP => hP z e, fun hA s hs => by rw [ym_ni_u hs e]; exact hA⟩
theorem yw_leastME (R : yl_R L K V nc tS tL sP lP kd fr hf to mc C mk mf mh mt) (k : yk_sky t h u cl sc sr ch co ro br wc wr m) (tl : yk_tl n ni nr tf tt) (hn : n ≠ 0) (p1 : 0 ≤ p) (p2 : p < 288) (hz : yv_is L tS t h u cl sc sr co ro br (p % 24) (p / 24) z) (hJ : yv_il z (yv_D L h u co ro br (p % 24) (p / 24)) J) {q may : Int} (q1 : 1 ≤ q) (q2 : q ≤ 4) {f1 f2 : Int} {m1 g2 g6 g7 g8 g9 g12 : Int → Int} (hm : ∀ j, m1 j = m j) :
    zh_ok (zf_M_leastClouds p q may mc f1 f2 ni n m1 mk g2 mh mt C g6 g7 g8 g9 tf tt g12) fun o => (o.1 = -1 ∧ ∀ c, z24 c → yn_n (zb c) 24 = q → (∀ j, zb c j = true → zb may j = true) → ¬ ym_P z h co nr J ni c) ∨ (o.1 ≠ -1 ∧ z24 o.1 ∧ yn_n (zb o.1) 24 = q ∧ ym_P z h co nr J ni o.1 ∧ ∀ c, z24 c → yn_n (zb c) 24 = q → (∀ j, zb c j = true → zb may j = true) → ym_P z h co nr J ni c → o.1 ≤ c) := by
  obtain ⟨-, ⟨⟨h0, h1⟩, -⟩, -, ⟨hcl, hwas⟩, -, -, -, ki⟩ := id k
  have hco : ∀ i : Int, 0 ≤ i → i < 24 → 0 ≤ co i ∧ co i ≤ 23 := fun i i0 i1 => (ki i i0 i1).1.1
  unfold zf_M_leastClouds
  obtain ⟨qn, rfl⟩ : ∃ qn : Nat, q = qn := ⟨q.toNat, by omega⟩
  have hst : zi_w (zi_shl 1 (qn : Int) - 1) = ((2 ^ qn - 1 : Nat) : Int) := by
    have : ∀ q : Nat, q < 5 → zi_w (zi_shl 1 (q : Int) - 1) = ((2 ^ q - 1 : Nat) : Int) := by decide +kernel
    exact this qn (by omega)
  have hsb : 1 ≤ 2 ^ qn - 1 ∧ 2 ^ qn - 1 ≤ 15 := by
    have : ∀ q : Nat, q < 5 → 1 ≤ q → 1 ≤ 2 ^ q - 1 ∧ 2 ^ q - 1 ≤ 15 := by decide
    exact this qn (by omega) (by omega)
  have hwas : m1 130 = cl := by rw [hm]; exact hwas
  refine zh_sum (Q := fun o => match o with
    | .inl a => ∀ c, z24 c → yn_n (zb c) 24 = (qn : Int) → (∀ j, zb c j = true → zb may j = true) → ¬ ym_P z h co nr J ni c
    | .inr o => o.1 ≠ -1 ∧ z24 o.1 ∧ yn_n (zb o.1) 24 = (qn : Int) ∧ ym_P z h co nr J ni o.1 ∧ ∀ c, z24 c → yn_n (zb c) 24 = (qn : Int) → (∀ j, zb c j = true → zb may j = true) → ym_P z h co nr J ni c → o.1 ≤ c) (zh_loop2 (F := fun f (a : Int × Int × Int × (Int → Int) × (Int → Int) × (Int → Int) × (Int → Int) × (Int → Int) × (Int → Int) × (Int → Int)) => zf_M_leastClouds_l0 p may (m1 130) mc ni n mk mh mt C tf tt f a.1 a.2.1 a.2.2.1 a.2.2.2.1 a.2.2.2.2.1 a.2.2.2.2.2.1 a.2.2.2.2.2.2.1 a.2.2.2.2.2.2.2.1 a.2.2.2.2.2.2.2.2.1 a.2.2.2.2.2.2.2.2.2) (μ := fun a => (16777216 - a.1).toNat)
      (I := fun a => 0 < a.1 ∧ (∀ j, a.2.2.2.1 j = m j) ∧ (a.1 < 16777216 → yn_n (zb a.1) 24 = (qn : Int)) ∧ ∀ c, z24 c → yn_n (zb c) 24 = (qn : Int) → c < a.1 → (∀ j, zb c j = true → zb may j = true) → ¬ ym_P z h co nr J ni c) (fun f a ha kk => ?_) 16777216 (zi_w (zi_shl 1 (qn : Int) - 1), f1, f2, m1, g2, g6, g7, g8, g9, g12) zi_fu (by show (16777216 - zi_w (zi_shl 1 (qn : Int) - 1)).toNat ≤ 16777216; rw [hst]; omega) (by decide) ⟨by show 0 < zi_w (zi_shl 1 (qn : Int) - 1); rw [hst]; omega, hm, fun _ => ?_, fun c c1 c2 c3 => ?_⟩) (fun a ha => zh_ret (.inl ⟨rfl, ha⟩)) fun b hb => zh_ret (.inr hb)
  · obtain ⟨a1, a2, a3, a4, a5, a6, a7, a8, a9, a10⟩ := a
    obtain ⟨ha0, ha, han, hac⟩ := ha
    show zh_ok (zf_M_leastClouds_l0_b p may (m1 130) mc ni n mk mh mt C tf tt (zf_M_leastClouds_l0 p may (m1 130) mc ni n mk mh mt C tf tt f) a1 a2 a3 a4 a5 a6 a7 a8 a9 a10) _
    unfold zf_M_leastClouds_l0_b
    have ha0 : 0 < a1 := ha0
    have ha : ∀ j, a4 j = m j := ha
    have han : a1 < 16777216 → yn_n (zb a1) 24 = (qn : Int) := han
    have hac : ∀ c, z24 c → yn_n (zb c) 24 = (qn : Int) → c < a1 → (∀ j, zb c j = true → zb may j = true) → ¬ ym_P z h co nr J ni c := hac
    refine zh_ite (fun hi => ?_) fun hi => zh_ret fun c c1 c2 => hac c c1 c2 (by have := c1.2; omega)
    have za : z24 a1 := ⟨by omega, by omega⟩
    -- on to the next set
    have nxt : ((∀ j, zb a1 j = true → zb may j = true) → ¬ ym_P z h co nr J ni a1) → ∀ b2 b3 (b4 b5 b6 b7 b8 b9 b10 : Int → Int), (∀ j, b4 j = m j) → ∀ v, a1 < v → v < 67108864 → (∀ t : Int, a1 < t → t < v → t < 16777216 → yn_n (zb t) 24 ≠ yn_n (zb a1) 24) → (v < 16777216 → yn_n (zb v) 24 = yn_n (zb a1) 24) → zh_ok (zf_M_leastClouds_l0 p may (m1 130) mc ni n mk mh mt C tf tt f v b2 b3 b4 b5 b6 b7 b8 b9 b10) _ := fun hno b2 b3 b4 b5 b6 b7 b8 b9 b10 hb4 v v1 v2 v3 v4 => kk (v, b2, b3, b4, b5, b6, b7, b8, b9, b10) (by show (16777216 - v).toNat < (16777216 - a1).toNat; omega) ⟨by show 0 < v; omega, hb4, fun hv => by rw [show yn_n (zb (v, b2, b3, b4, b5, b6, b7, b8, b9, b10).1) 24 = yn_n (zb v) 24 from rfl, v4 hv]; exact han hi, fun c c1 c2 c3 c4 => ?_⟩
    · refine zh_ite (fun hs => ?_) fun hs => ?_
      · have hsub := (yw_ands za).mp hs
        have k2 := yk_cl2 (k := k) (c2 := zi_or (m1 130) a1) (h2 := ch) (m2 := zv_up a4 130 (zi_or (m1 130) a1)) (by rw [hwas]; exact z24_or hcl za) k.2.2.2.2.2.2.1.1.1 k.2.2.2.2.2.2.1.1.2 zv_up_s (by rw [zv_up_n (by decide), ha]; exact k.2.2.2.2.2.2.1.2) (fun j j1 _ => by rw [zv_up_n j1, ha])
        rw [hwas] at k2
        have hm2 : ∀ j, zv_up (zv_up a4 130 (zi_or (m1 130) a1)) 130 (m1 130) j = m j := fun j => by
          by_cases e : j = 130
          · subst e; rw [zv_up_s]; exact hm 130
          · rw [zv_up_n e, zv_up_n e, ha]
        obtain ⟨z2, y1, y2, J2, -, i2, l2⟩ := ym_looks (f1 := 0) (g := g2) (S := g6) (J := g7) (x := p % 24) (y := p / 24) R k2 (by omega) (by omega) (by omega) (by omega)
        have htv := ym_tv_cl (nr := nr) (ni := ni) (c := a1) hz hJ hco h0 h1 ⟨z2, J2, i2, l2⟩
        rw [← hwas] at k2 htv
        refine zh_bind (yw_cbtME R k2 tl hn p1 p2) fun r5 h5 => ?_
        rcases h5.1 with ⟨c1, c2⟩ | ⟨c1, c2⟩
        · rw [if_neg (by rw [c1]; decide)]
          refine zw_gosx ha0 hi fun v v1 v2 v3 v4 => ?_
          exact nxt (fun _ => htv.mp c2) _ _ _ _ _ _ _ _ _ hm2 v v1 v2 v3 v4
        · rw [if_pos c1]
          refine zh_ret ⟨by show a1 ≠ -1; omega, za, han hi, ?_, fun c c1 c2 c3 c4 => ?_⟩
          · by_cases q : ym_P z h co nr J ni a1
            · exact q
            · exact absurd (htv.mpr q) c2
          · show a1 ≤ c
            by_cases lt : c < a1
            · exact absurd c4 (hac c c1 c2 lt c3)
            · omega
      · refine zw_gosx ha0 hi fun v v1 v2 v3 v4 => ?_
        exact nxt (fun w => absurd ((yw_ands za).mpr w) hs) _ _ _ _ _ _ _ _ _ ha v v1 v2 v3 v4
    · have c3 : c < v := c3
      by_cases lt : c < a1
      · exact hac c c1 c2 lt c4
      · by_cases e : c = a1
        · subst e; exact hno c4
        · refine absurd ?_ (v3 c (by omega) c3 (by have := c1.2; omega))
          rw [c2, han hi]
  · show yn_n (zb (zi_w (zi_shl 1 (qn : Int) - 1))) 24 = (qn : Int)
    rw [hst, yn_zb (by omega) (by omega), Int.toNat_natCast, show 24 = qn + (24 - qn) by omega, yz_cut (by omega), yz_ones]
  · have c3 : c < zi_w (zi_shl 1 (qn : Int) - 1) := c3
    rw [hst] at c3
    have c0 := c1.1
    rw [yn_zb c0 (by omega), show 24 = qn + (24 - qn) by omega, yz_cut (by omega)] at c2
    have := yz_few (v := c.toNat) (m := qn) (by omega)
    omega
theorem yw_may (k : yk_sky t h u cl sc sr ch co ro br wc wr m) {s : Int} (hst : ∀ j, zb s j = true → zb t j = true) : zh_ok (zf_M_hidden_l0 s m zi_fu 0 0) fun v => ∀ q, zb v q = true ↔ ∃ j : Nat, j < 24 ∧ zb s j = true ∧ q = (yv_st h co j).toNat := by
  obtain ⟨-, ⟨⟨h0, h1⟩, h128⟩, -, -, -, -, -, ki⟩ := id k
  refine zh_loop (F := fun f i (a : Int) => zf_M_hidden_l0 s m f a i) (N := 24) (I := fun i a => ∀ q, zb a q = true ↔ ∃ j : Nat, (j : Int) < i ∧ zb s j = true ∧ q = (yv_st h co j).toNat) (fun f i a i0 i1 ha kk => ?_) 24 0 0 zi_fu (by decide) (by decide) (by decide) (by decide) fun q => by rw [zb_0]; exact ⟨fun h => (by cases h), fun ⟨j, j1, _⟩ => by omega⟩
  show zh_ok (zf_M_hidden_l0_b s m (zf_M_hidden_l0 s m f) a i) _
  unfold zf_M_hidden_l0_b
  refine zh_ite (fun hi => ?_) fun _ => zh_ret fun q => ?_
  · obtain ⟨v, rfl⟩ : ∃ v : Nat, i = v := ⟨i.toNat, by omega⟩
    rw [zi_w_id (x := (v : Int) + 1) (by omega) (by omega), ze_has2 i0 (by omega), zl_b, Int.toNat_natCast]
    by_cases hb : zb s v = true
    · have kv := ki v i0 hi
      have mv := (kv.2.2 (hst v hb)).1
      have stin := yv_st_in (h := h) (co := co) (i := (v : Int))
      rw [if_pos hb, if_neg (show ¬ (1 : Int) = 0 by decide), ze_M_standsAt i0 hi kv.2.1.1.1 kv.2.1.1.2 (by rw [h128]; exact h0) (by rw [h128]; exact h1), zl_b, mv, h128, ← show yv_st h co v = (co (v : Int) + h) % 24 from rfl]
      refine kk _ hi fun q => ?_
      rw [zb_or, Bool.or_eq_true, ha, zb_shl stin.1 (by omega), decide_eq_true_iff]
      constructor
      · rintro (⟨j, j1, j2⟩ | e)
        · exact ⟨j, by omega, j2⟩
        · exact ⟨v, by omega, hb, e⟩
      · rintro ⟨j, j1, j2, j3⟩
        by_cases e : j = v
        · subst e; exact .inr j3
        · exact .inl ⟨j, by omega, j2, j3⟩
    · rw [if_neg hb, if_pos rfl]
      refine kk _ hi fun q => ?_
      rw [ha]
      constructor
      · rintro ⟨j, j1, j2⟩; exact ⟨j, by omega, j2⟩
      · rintro ⟨j, j1, j2, j3⟩
        refine ⟨j, ?_, j2, j3⟩
        by_cases e : j = v
        · subst e; exact absurd j2 hb
        · omega
  · rw [ha]
    constructor
    · rintro ⟨j, j1, j2⟩; exact ⟨j, by omega, j2⟩
    · rintro ⟨j, j1, j2⟩; exact ⟨j, by omega, j2⟩
/-- the columns that hide least are columns of what is seen -/
theorem ym_Fin_may {f may : Int} (hF : ym_Fin z h co nr J ni f) (hmay : ∀ j : Nat, j < 24 → zb z j = true → zb may (yv_st h co j).toNat = true) : ∀ q, zb f q = true → zb may q = true := fun q hq => by
  obtain ⟨f1, f2, f3, f4⟩ := hF
  have q24 : q < 24 := by
    by_cases c : q < 24
    · exact c
    · rw [z24_b f1 (by omega)] at hq; cases hq
  by_cases hm : zb may q = true
  · exact hm
  · exfalso
    have zc : z24 (zi_and f (zi_xor (zi_shl 1 (q : Int)) (-1))) := z24_and f1
    have cnt := yn_clr q24 hq
    have hP : ym_P z h co nr J ni (zi_and f (zi_xor (zi_shl 1 (q : Int)) (-1))) := fun s hs => f3 s ⟨hs.1, fun j => by
      rw [hs.2]
      by_cases j24 : j < 24
      · cases ez : zb z j
        · rfl
        · have stin := yv_st_in (h := h) (co := co) (i := (j : Int))
          rw [zb_clr (by omega) (by omega) (by omega), decide_eq_false (show ¬ (yv_st h co (j : Int)).toNat = ((q : Nat) : Int).toNat from fun e => hm (by
            have := hmay j j24 ez
            rw [e, Int.toNat_natCast] at this
            exact this)), Bool.not_false, Bool.and_true]
      · rw [decide_eq_false j24, Bool.false_and, Bool.false_and]⟩
    have := (f4 _ zc hP).1
    rw [cnt] at this
    generalize yn_n (zb (zi_and f (zi_xor (zi_shl 1 (q : Int)) (-1)))) 24 = a at this
    omega
theorem yo_hidden (R : yl_R L K V nc tS tL sP lP kd fr hf to mc C mk mf mh mt) (k : yk_sky t h u cl sc sr ch co ro br wc wr m) (tl : yk_tl n ni nr tf tt) {x y w f5 f6 f7 f10 f16 f18 f24 f26 f2 f3 : Int} {g0 g1 g9 g11 g12 g13 g15 g16 e2 e6 e7 e8 e9 e12 : Int → Int} (hs : yw_so g16) :
    ∃ o1 o2, zf_X_hidden x y w n f5 f6 f7 h u f10 t sc sr cl tS f16 nc f18 sP tL lP f24 ni f26 g0 g1 co ro br kd hf to K g9 V g11 g12 g13 nr g15 g16 = some o1 ∧ zf_M_hidden x y w n mc f2 f3 ni m mk e2 mh mt C e6 e7 e8 e9 tf tt e12 = some o2 ∧ o1.1 = o2.1 ∧ yw_so o1.2.2.2.2.2.2.2.2.2.2.2.2.2.2.2.2 ∧ ∀ j, o2.2.2.2.1 j = m j := by
  obtain ⟨oX, eX, hX⟩ := yw_hiddenX (x := x) (y := y) (w := w) (n := n) (f5 := f5) (f6 := f6) (f7 := f7) (f10 := f10) (f16 := f16) (f18 := f18) (f24 := f24) (f25 := ni) (f26 := f26) (g0 := g0) (g1 := g1) (g9 := g9) (g11 := g11) (g12 := g12) (g13 := g13) (g14 := nr) (g15 := g15) R k hs
  obtain ⟨oM, eM, hM⟩ := yw_hiddenM (x := x) (y := y) (w := w) (f2 := f2) (f3 := f3) (g2 := e2) (g6 := e6) (g7 := e7) (g8 := e8) (g9 := e9) (g12 := e12) R k tl
  refine ⟨oX, oM, eX, eM, ?_, hX, hM⟩
  unfold zf_X_hidden at eX
  unfold zf_M_hidden at eM
  rw [ze_X_isPlace, zl_b] at eX
  rw [ze_M_isPlace, zl_b] at eM
  by_cases q : zs_pl x y = 0
  · rw [if_pos q] at eX eM
    cases eX; cases eM; rfl
  rw [if_neg q, ze_X_isWithin, zl_b] at eX
  rw [if_neg q, ze_M_in, zl_b] at eM
  by_cases q2 : zs_in w 0 1 = 0
  · rw [if_pos q2] at eX eM
    cases eX; cases eM; rfl
  rw [if_neg q2] at eX eM
  by_cases hn : n = 0
  · rw [if_pos hn] at eX eM
    cases eX; cases eM; rfl
  rw [if_neg hn] at eX eM
  obtain ⟨x1, x2, y1, y2⟩ := zs_pl_ne q
  have hni := tl.2.2.2.1
  obtain ⟨⟨ht, -⟩, ⟨⟨h0, h1⟩, -⟩, -, -, -, -, -, ki⟩ := id k
  have hco : ∀ i : Int, 0 ≤ i → i < 24 → 0 ≤ co i ∧ co i ≤ 23 := fun i i0 i1 => (ki i i0 i1).1.1
  obtain ⟨f3', s', f14', f16', g0', g1', g9', J1, g12', e1, i1, l1⟩ := yx_lad (f3 := f5) (f4 := f6) (f5 := f7) (f8 := f10) (f14 := f16) (f16 := f18) (g0 := g0) (g1 := g1) (g9 := g9) (g11 := g11) (g12 := g12) R k x1 (by omega : x ≤ 23) y1 (by omega : y ≤ 11)
  rw [e1, zl_b] at eX
  rw [zi_w_id (x := 24 * y) (by omega) (by omega), zi_w_id (x := 24 * y + x) (by omega) (by omega)] at eM
  dsimp only at eX
  obtain ⟨P, eP⟩ : ∃ P, P = 24 * y + x := ⟨_, rfl⟩
  have pm : P % 24 = x := by omega
  have pd : P / 24 = y := by omega
  have P0 : 0 ≤ P := by omega
  have P1 : P < 288 := by omega
  rw [← eP] at eM
  rw [← pm, ← pd] at i1 l1
  obtain ⟨H, HN⟩ := yk_tl_H tl (yv_il_H l1).1 (yv_il_H l1).2
  obtain ⟨r, er, h7, -⟩ := ym_count H HN i1.1 hni (yk_tl_8 tl) (most := 1) (f2 := f24) (g1 := g13) (g3 := g15) (g4 := g16) (by decide) (by decide)
  obtain ⟨r6, er6, h6, i6⟩ := yw_cbtME (f1 := f2) (f2 := f3) (g := e2) (S := e6) (J := e7) (nA := e8) (sF := e9) (fF := e12) R k tl hn P0 P1
  have es := yv_is_eq i6 i1
  rw [er, zl_b] at eX
  rw [er6, zl_b] at eM
  have htv := ym_tv_i (nr := nr) (ni := ni) i1 l1
  by_cases hA : ym_A s' nr J1 ni = 0
  · have z1 : r.1 = 0 := by rw [h7, hA]; decide
    have z2 : r6.1 = 0 := h6.elim (fun w => absurd (htv.mp w.2) (by omega)) fun w => w.1
    rw [if_pos z1] at eX
    rw [if_pos z2] at eM
    cases eX; cases eM; rfl
  · have z1 : ¬ r.1 = 0 := by rw [h7]; split <;> omega
    have z2 : ¬ r6.1 = 0 := h6.elim (fun w => by rw [w.1]; decide) fun w => absurd (htv.mpr (by omega)) w.2
    rw [if_neg z1] at eX
    rw [if_neg z2] at eM
    have nP0 : ¬ ym_P s' h co nr J1 ni 0 := fun w => hA ((ym_P_0 i1.1).mp w)
    obtain ⟨r9, er9, h9⟩ := ym_fewest H HN i1.1 hni (yk_tl_8 tl) hco h0 h1 nP0 (f0 := f26) (f6 := r.2.1) (g2 := r.2.2.1) (g4 := r.2.2.2.1) (g5 := r.2.2.2.2)
    rw [er9, zl_b] at eX
    rw [es] at eM
    have hst : ∀ j, zb s' j = true → zb t j = true := fun j hj => by
      rw [i1.2, Bool.and_eq_true, Bool.and_eq_true] at hj
      exact hj.2.1
    obtain ⟨may, em, hmay⟩ := yw_may k hst
    rw [em, zl_b] at eM
    have hmay2 : ∀ j : Nat, j < 24 → zb s' j = true → zb may (yv_st h co j).toNat = true := fun j j1 j2 => (hmay _).mpr ⟨j, j1, j2, rfl⟩
    have loop : zh_ok (zf_M_hidden_l1 w P may n mc ni mk mh mt C tf tt zi_fu 1 s' r6.2.2.1 m r6.2.2.2.1 r6.2.2.2.2.1 r6.2.2.2.2.2.1 r6.2.2.2.2.2.2.1 r6.2.2.2.2.2.2.2.1 r6.2.2.2.2.2.2.2.2) fun o => match o with
      | .inl a => ∀ f, ym_Fin s' h co nr J1 ni f → False
      | .inr b => ∃ f, ym_Fin s' h co nr J1 ni f ∧ f ≠ -1 ∧ b.1 = (if w = 0 then yn_n (zb f) 24 else f) := by
      refine zh_loop (F := fun f i (a : Int × Int × (Int → Int) × (Int → Int) × (Int → Int) × (Int → Int) × (Int → Int) × (Int → Int) × (Int → Int)) => zf_M_hidden_l1 w P may n mc ni mk mh mt C tf tt f i a.1 a.2.1 a.2.2.1 a.2.2.2.1 a.2.2.2.2.1 a.2.2.2.2.2.1 a.2.2.2.2.2.2.1 a.2.2.2.2.2.2.2.1 a.2.2.2.2.2.2.2.2) (N := 5)
        (I := fun i a => 1 ≤ i ∧ (∀ j, a.2.2.1 j = m j) ∧ ∀ f, ym_Fin s' h co nr J1 ni f → i ≤ yn_n (zb f) 24) (fun f i a i0 i5 ha kk => ?_) 5 1 (s', r6.2.2.1, m, r6.2.2.2.1, r6.2.2.2.2.1, r6.2.2.2.2.2.1, r6.2.2.2.2.2.2.1, r6.2.2.2.2.2.2.2.1, r6.2.2.2.2.2.2.2.2) zi_fu (by decide) (by decide) (by decide) (by decide) ⟨by decide, fun _ => rfl, fun f hF => ?_⟩
      · obtain ⟨a1, a2, a3, a4, a5, a6, a7, a8, a9⟩ := a
        obtain ⟨ha0, ha, hlo⟩ := ha
        show zh_ok (zf_M_hidden_l1_b w P may n mc ni mk mh mt C tf tt (zf_M_hidden_l1 w P may n mc ni mk mh mt C tf tt f) i a1 a2 a3 a4 a5 a6 a7 a8 a9) _
        unfold zf_M_hidden_l1_b
        refine zh_ite (fun hi => zh_ret fun f hF => ?_) fun hi => ?_
        · have := hlo f hF
          have := hF.2.1
          omega
        rw [zi_w_id (x := i + 1) (by omega) (by omega)]
        refine zh_bind (zh_and (yw_leastM R k tl hn P0 P1 ha0 (by omega) ha) (yw_leastME R k tl hn P0 P1 i1 l1 ha0 (by omega) ha)) fun r14 h14 => ?_
        obtain ⟨hres, h14⟩ := h14
        rcases h14 with ⟨c1, c2⟩ | ⟨c0, c1, c2, c3, c4⟩
        · rw [if_pos c1]
          refine kk (_, _, _, _, _, _, _, _, _) (by omega) ⟨by omega, hres, fun f hF => ?_⟩
          have lo := hlo f hF
          by_cases e : yn_n (zb f) 24 = i
          · exact absurd hF.2.2.1 (c2 f hF.1 e (ym_Fin_may hF hmay2))
          · omega
        · rw [if_neg c0]
          have fin : ym_Fin s' h co nr J1 ni r14.1 := by
            have below : ∀ c, z24 c → ym_P s' h co nr J1 ni c → i ≤ yn_n (zb c) 24 := fun c d1 d2 => by
              rcases h9 with ⟨-, d3⟩ | ⟨-, d3⟩
              · have := d3 c d1 d2; omega
              · have := hlo _ d3
                have := (d3.2.2.2 c d1 d2).1
                omega
            refine ⟨c1, by rw [c2]; omega, c3, fun c d1 d2 => ⟨by rw [c2]; exact below c d1 d2, fun d3 => ?_⟩⟩
            rw [c2] at d3
            have hFc : ym_Fin s' h co nr J1 ni r9.1 := by
              rcases h9 with ⟨-, d4⟩ | ⟨-, d4⟩
              · have := d4 c d1 d2; omega
              · exact d4
            have e1 := hFc.2.2.2 c d1 d2
            have e2 := below _ hFc.1 hFc.2.2.1
            have e3 : yn_n (zb r9.1) 24 = i := by omega
            have e4 := c4 r9.1 hFc.1 e3 (ym_Fin_may hFc hmay2) hFc.2.2.1
            have e5 := e1.2 (by omega)
            omega
          refine zh_ite (fun e => zh_ret ⟨r14.1, fin, c0, ?_⟩) fun e => zh_ret ⟨r14.1, fin, c0, ?_⟩
          · show i = _
            rw [if_pos e, c2]
          · show r14.1 = _
            rw [if_neg e]
      · show 1 ≤ yn_n (zb f) 24
        by_cases lt : 1 ≤ yn_n (zb f) 24
        · exact lt
        · have e : f = 0 := (z24_z hF.1).mpr fun j hj => Bool.eq_false_iff.mpr fun w => by
            have l := yn_lt (f := fun _ => false) (g := zb f) (k := j) (by decide) w 24 hj fun i _ hi => (by cases hi)
            have l0 := (yn_in (f := fun _ => false) 24).1
            generalize yn_n (fun _ => false) 24 = a at l l0
            generalize yn_n (zb f) 24 = b at l lt
            omega
          have := hF.2.2.1
          rw [e] at this
          exact absurd this nP0
    obtain ⟨o, eo, ho⟩ := loop
    rw [eo, zl_b] at eM
    cases o with
    | inl a =>
      have ho : ∀ f, ym_Fin s' h co nr J1 ni f → False := ho
      rcases h9 with ⟨c1, -⟩ | ⟨-, c2⟩
      · rw [if_pos c1] at eX
        dsimp only [Sum.elim] at eM
        cases eX; cases eM; rfl
      · exact absurd c2 (ho _)
    | inr b =>
      obtain ⟨f, hF, hne, hb⟩ : ∃ f, ym_Fin s' h co nr J1 ni f ∧ f ≠ -1 ∧ b.1 = (if w = 0 then yn_n (zb f) 24 else f) := ho
      dsimp only [Sum.elim] at eM
      rcases h9 with ⟨-, c2⟩ | ⟨c1, c2⟩
      · have := c2 f hF.1 hF.2.2.1
        have := hF.2.1
        omega
      · have d1 := c2.2.2.2 f hF.1 hF.2.2.1
        have d2 := hF.2.2.2 r9.1 c2.1 c2.2.2.1
        have e4 : yn_n (zb r9.1) 24 = yn_n (zb f) 24 := by omega
        have e5 : r9.1 = f := by
          have a1 := d1.2 e4.symm
          have a2 := d2.2 e4
          omega
        rw [if_neg c1] at eX
        by_cases hw : w = 0
        · rw [if_pos hw, ze_bc c2.1, zl_b] at eX
          rw [if_pos hw] at hb
          rw [← Option.some.inj eX, ← Option.some.inj eM]
          show zs_sum r9.1 24 = b.1
          rw [yn_sum c2.1.1 (by have := c2.1.2; omega) 24, hb, e5]
        · rw [if_neg hw] at eX
          rw [if_neg hw] at hb
          rw [← Option.some.inj eX, ← Option.some.inj eM]
          show r9.1 = b.1
          rw [hb, e5]
end YTM
end
section
/-! log: alike. -/
noncomputable def yw_ks (B : Int → Prop) (T2 v : Int) : Int := if v = -1 then -1 else @ite Int (B v ↔ T2 = 1) (Classical.propDecidable _) v (-1)
def yw_mv (gl : Int → Int) (how v : Int) : Int := if v = -1 then -1 else if yg_go v how = -1 ∨ yg_ld gl (yg_go v how) = true then -1 else yg_go v how
noncomputable def yw_G (B : Nat → Int → Prop) (T gl : Int → Int) (a : Int) : Nat → Int → Int
  | 0, i => if yg_ld gl i = true then -1 else i
  | k + 1, i => if (k : Int) + 1 < a then yw_mv gl (T (2 * (k : Int) + 1)) (yw_ks (B k) (T (2 * (k : Int))) (yw_G B T gl a k i)) else yw_ks (B k) (T (2 * (k : Int))) (yw_G B T gl a k i)
theorem yw_ks_m {B : Int → Prop} {T2 : Int} : yw_ks B T2 (-1) = -1 := if_pos rfl
theorem yw_ks_y {B : Int → Prop} {T2 v : Int} (hv : v ≠ -1) (h : B v ↔ T2 = 1) : yw_ks B T2 v = v := by
  unfold yw_ks
  rw [if_neg hv, if_pos h]
theorem yw_ks_n {B : Int → Prop} {T2 v : Int} (hv : v ≠ -1) (h : ¬ (B v ↔ T2 = 1)) : yw_ks B T2 v = -1 := by
  unfold yw_ks
  rw [if_neg hv, if_neg h]
def yw_sv (gl : Int → Int) (v : Int) : Prop := v = -1 ∨ ((0 ≤ v ∧ v < 288) ∧ ¬ yg_ld gl v = true)
theorem yw_ks_sv {gl : Int → Int} {B : Int → Prop} {T2 v : Int} (h : yw_sv gl v) : yw_sv gl (yw_ks B T2 v) := by
  unfold yw_ks
  split
  · exact .inl rfl
  · split
    · exact h
    · exact .inl rfl
theorem yw_mv_sv {gl : Int → Int} {how v : Int} (h : yw_sv gl v) : yw_sv gl (yw_mv gl how v) := by
  unfold yw_mv
  split
  · exact .inl rfl
  · rename_i hv
    split
    · exact .inl rfl
    · rename_i hn
      obtain ⟨⟨v0, v1⟩, -⟩ := h.resolve_left hv
      have := yg_go_in (how := how) v0 v1
      refine .inr ⟨?_, fun w => hn (.inr w)⟩
      have h1 : ¬ yg_go v how = -1 := fun w => hn (.inl w)
      omega
theorem yw_G_sv {B : Nat → Int → Prop} {T gl : Int → Int} {a i : Int} (i0 : 0 ≤ i) (i1 : i < 288) : ∀ k, yw_sv gl (yw_G B T gl a k i)
  | 0 => by
    show yw_sv gl (if yg_ld gl i = true then -1 else i)
    split
    · exact .inl rfl
    · rename_i h
      exact .inr ⟨⟨i0, i1⟩, h⟩
  | k + 1 => by
    have ih := yw_G_sv (B := B) (T := T) (gl := gl) (a := a) i0 i1 k
    show yw_sv gl (if (k : Int) + 1 < a then yw_mv gl (T (2 * (k : Int) + 1)) (yw_ks (B k) (T (2 * (k : Int))) (yw_G B T gl a k i)) else yw_ks (B k) (T (2 * (k : Int))) (yw_G B T gl a k i))
    split
    · exact yw_mv_sv (yw_ks_sv ih)
    · exact yw_ks_sv ih
section YWL
variable {L : zLW} {K V kd fr hf to C mk mf mh mt T M tf tt : Int → Int} {nc tS tL sP lP mc : Int} {t h u cl sc sr ch ts p i ln nn : Int} {co ro br wc wr m gp gl nr : Int → Int} {hs us : Nat → Int} {cs rs : Nat → Int → Int}
theorem yw_moveE (z : yk_sea ts gp gl m) {how : Int} {g D : Int → Int} (hg : ∀ i, 0 ≤ i → i < 288 → g i = D i ∧ yw_sv gl (D i)) : zh_ok (zf_X_moveSpots how g gl) fun o => ∀ i, 0 ≤ i → i < 288 → o i = yw_mv gl how (D i) := by
  unfold zf_X_moveSpots
  refine zh_bind (Q := fun o => ∀ i, 0 ≤ i → i < 288 → o i = yw_mv gl how (D i)) (zh_loop (F := fun f j (b : Int → Int) => zf_X_moveSpots_l0 how gl f j b) (N := 288) (I := fun j b => (∀ i, 0 ≤ i → i < j → b i = yw_mv gl how (D i)) ∧ ∀ i, j ≤ i → i < 288 → b i = D i) (fun f j b j0 j1 ha kk => ?_) 288 0 g zi_fu (by decide) (by decide) (by decide) (by decide) ⟨fun i i0 i1 => by omega, fun i i0 i1 => (hg i i0 i1).1⟩) fun q hq => zh_ret hq
  obtain ⟨a1, a2⟩ := ha
  show zh_ok (zf_X_moveSpots_l0_b how gl (zf_X_moveSpots_l0 how gl f) j b) _
  unfold zf_X_moveSpots_l0_b
  refine zh_ite (fun hj => ?_) fun _ => zh_ret fun i i0 i1 => a1 i i0 (by omega)
  rw [zi_w_id (x := j + 1) (by omega) (by omega), zl_ci j0 hj]
  have ej := a2 j (Int.le_refl _) hj
  have next : ∀ b', (b' j = yw_mv gl how (D j)) → (∀ i, i ≠ j → b' i = b i) → zh_ok (zf_X_moveSpots_l0 how gl f (j + 1) b') _ := fun b' h1 h2 => kk b' hj ⟨fun i i0 i1 => by
    by_cases e : i = j
    · subst e; exact h1
    · rw [h2 i e]; exact a1 i i0 (by omega), fun i i0 i1 => by rw [h2 i (by omega)]; exact a2 i (by omega) i1⟩
  refine zh_ite (fun e => next b ?_ fun _ _ => rfl) fun hne => ?_
  · rw [e]
    rw [ej] at e
    unfold yw_mv
    rw [if_pos e]
  · rw [ej] at hne ⊢
    obtain ⟨⟨v0, v1⟩, -⟩ := (hg j j0 hj).2.resolve_left hne
    rw [ze_goFrom z v0 v1, zl_b]
    refine next _ ?_ fun i hi => zv_up_n hi
    rw [zv_up_s]
    unfold yw_mv
    rw [if_neg hne]
theorem yw_lg2XE (R : yl_R L K V nc tS tL sP lP kd fr hf to mc C mk mf mh mt) (k : yk_sky t h u cl sc sr ch co ro br wc wr m) (tl : yk_tl ln nn nr tf tt) {w e1 e2 e3 e4 e5 e6 e7 : Int} {d1 d2 d3 d4 d5 d6 d7 d8 d9 D : Int → Int} (hc : yv_ca L sP h u co ro br e1 e5) (hp : yv_cp L lP h u co ro br d2 d6) (hso : yw_so d9) (hn : ∀ i, 0 ≤ i → i < 288 → d1 i = D i ∧ yw_sv gl (D i)) {B : Int → Prop} (hB : ∀ v, B v ↔ ym_tv L tS t h u cl sc sr co ro br nr nn v) {T2 : Int} (hw : (w = 1 ∧ T2 = 1) ∨ (w = 0 ∧ T2 ≠ 1)) :
    zh_ok (zf_X_log_l2 w t h u cl sc sr tS nc sP nn tL lP co ro br kd hf to K V nr zi_fu 0 e1 e2 e3 e4 e5 e6 e7 d1 d2 d3 d4 d5 d6 d7 d8 d9) fun o => (∀ i, 0 ≤ i → i < 288 → o.2.2.2.2.2.2.2.1 i = yw_ks B T2 (D i)) ∧ yw_so o.2.2.2.2.2.2.2.2.2.2.2.2.2.2.2 := by
  refine zh_loop (F := fun f j (b : Int × Int × Int × Int × Int × Int × Int × (Int → Int) × (Int → Int) × (Int → Int) × (Int → Int) × (Int → Int) × (Int → Int) × (Int → Int) × (Int → Int) × (Int → Int)) => zf_X_log_l2 w t h u cl sc sr tS nc sP nn tL lP co ro br kd hf to K V nr f j b.1 b.2.1 b.2.2.1 b.2.2.2.1 b.2.2.2.2.1 b.2.2.2.2.2.1 b.2.2.2.2.2.2.1 b.2.2.2.2.2.2.2.1 b.2.2.2.2.2.2.2.2.1 b.2.2.2.2.2.2.2.2.2.1 b.2.2.2.2.2.2.2.2.2.2.1 b.2.2.2.2.2.2.2.2.2.2.2.1 b.2.2.2.2.2.2.2.2.2.2.2.2.1 b.2.2.2.2.2.2.2.2.2.2.2.2.2.1 b.2.2.2.2.2.2.2.2.2.2.2.2.2.2.1 b.2.2.2.2.2.2.2.2.2.2.2.2.2.2.2) (N := 288) (I := fun j o => (yv_ca L sP h u co ro br o.1 o.2.2.2.2.1 ∧ yv_cp L lP h u co ro br o.2.2.2.2.2.2.2.2.1 o.2.2.2.2.2.2.2.2.2.2.2.2.1 ∧ yw_so o.2.2.2.2.2.2.2.2.2.2.2.2.2.2.2) ∧ (∀ i, 0 ≤ i → i < j → o.2.2.2.2.2.2.2.1 i = yw_ks B T2 (D i)) ∧ ∀ i, j ≤ i → i < 288 → o.2.2.2.2.2.2.2.1 i = D i) (fun f j b j0 j1 ha kk => ?_) 288 0 (e1, e2, e3, e4, e5, e6, e7, d1, d2, d3, d4, d5, d6, d7, d8, d9) zi_fu (by decide) (by decide) (by decide) (by decide) ⟨⟨hc, hp, hso⟩, fun i i0 i1 => by omega, fun i i0 i1 => (hn i i0 i1).1⟩
  obtain ⟨b1, b2, b3, b4, b5, b6, b7, b8, b9, b10, b11, b12, b13, b14, b15, b16⟩ := b
  obtain ⟨⟨a1, a2, a4⟩, a5, a6⟩ := ha
  dsimp only at a1 a2 a4 a5 a6
  show zh_ok (zf_X_log_l2_b w t h u cl sc sr tS nc sP nn tL lP co ro br kd hf to K V nr (zf_X_log_l2 w t h u cl sc sr tS nc sP nn tL lP co ro br kd hf to K V nr f) j b1 b2 b3 b4 b5 b6 b7 b8 b9 b10 b11 b12 b13 b14 b15 b16) _
  unfold zf_X_log_l2_b
  refine zh_ite (fun hj => ?_) fun _ => zh_ret ⟨fun i i0 i1 => a5 i i0 (by omega), a4⟩
  rw [zi_w_id (x := j + 1) (by omega) (by omega), zl_ci j0 hj]
  have ej := a6 j (Int.le_refl _) hj
  have k2 : ∀ c1 c2 c3 c4 c5 c6 c7 c8 c9 c10 c11 c12 c13 c14 c15 c16, yv_ca L sP h u co ro br c1 c5 → yv_cp L lP h u co ro br c9 c13 → yw_so c16 → c8 j = yw_ks B T2 (D j) → (∀ i, i ≠ j → c8 i = b8 i) → zh_ok (zf_X_log_l2 w t h u cl sc sr tS nc sP nn tL lP co ro br kd hf to K V nr f (j + 1) c1 c2 c3 c4 c5 c6 c7 c8 c9 c10 c11 c12 c13 c14 c15 c16) _ := fun c1 c2 c3 c4 c5 c6 c7 c8 c9 c10 c11 c12 c13 c14 c15 c16 p1 p2 p3 p4 p5 => kk (c1, c2, c3, c4, c5, c6, c7, c8, c9, c10, c11, c12, c13, c14, c15, c16) hj ⟨⟨p1, p2, p3⟩, fun i i0 i1 => by
    by_cases e : i = j
    · subst e; exact p4
    · show c8 i = _
      rw [p5 i e]; exact a5 i i0 (by omega), fun i i0 i1 => by
    show c8 i = _
    rw [p5 i (by omega)]; exact a6 i (by omega) i1⟩
  refine zh_ite (fun e => k2 _ _ _ _ _ _ _ _ _ _ _ _ _ _ _ _ a1 a2 a4 ?_ fun _ _ => rfl) fun hne => ?_
  · rw [e]
    rw [ej] at e
    rw [e, yw_ks_m]
  · rw [ej] at hne ⊢
    obtain ⟨⟨v0, v1⟩, -⟩ := (hn j j0 hj).2.resolve_left hne
    refine zh_bind (yw_cbtXE R k tl v0 v1 a1 a2 a4) fun r h5 => ?_
    obtain ⟨h5, h6⟩ := h5
    have hBj := hB (D j)
    refine zh_ite (fun e => k2 _ _ _ _ _ _ _ _ _ _ _ _ _ _ _ _ h5.1 h5.2.1 h5.2.2 ?_ fun _ _ => rfl) fun e => k2 _ _ _ _ _ _ _ _ _ _ _ _ _ _ _ _ h5.1 h5.2.1 h5.2.2 ?_ fun i hi => zv_up_n hi
    · rw [ej, yw_ks_y hne]
      rcases h6 with ⟨c1, c2⟩ | ⟨c1, c2⟩
      · rcases hw with ⟨w1, w2⟩ | ⟨w1, w2⟩
        · exact ⟨fun _ => w2, fun _ => hBj.mpr c2⟩
        · omega
      · rcases hw with ⟨w1, w2⟩ | ⟨w1, w2⟩
        · omega
        · exact ⟨fun w => absurd (hBj.mp w) c2, fun w => absurd w w2⟩
    · rw [zv_up_s, yw_ks_n hne]
      intro hiff
      rcases h6 with ⟨c1, c2⟩ | ⟨c1, c2⟩
      · rcases hw with ⟨w1, w2⟩ | ⟨w1, w2⟩
        · exact e (by rw [c1, w1])
        · exact w2 (hiff.mp (hBj.mpr c2))
      · rcases hw with ⟨w1, w2⟩ | ⟨w1, w2⟩
        · exact c2 (hBj.mp (hiff.mpr w2))
        · exact e (by rw [c1, w1])
theorem yw_lg1XE (R : yl_R L K V nc tS tL sP lP kd fr hf to mc C mk mf mh mt) (sq : yw_sq t h u cl sc sr ch ts co ro br wc wr gl hs us cs rs) (tl : yk_tl ln nn nr tf tt) {a e1 e2 e3 e4 e5 e6 e7 : Int} {d1 c1 c2 c3 c4 c5 c6 c7 c8 : Int → Int} (n1 : 0 ≤ a) (n2 : a ≤ 12) (hso : yw_so c8) {B : Nat → Int → Prop} (hB : ∀ j v, B j v ↔ ym_tv L tS t (hs j) (us j) cl sc sr (cs j) (rs j) br nr nn v) (hn : ∀ i, 0 ≤ i → i < 288 → d1 i = yw_G B T gl a 0 i) :
    zh_ok (zf_X_log_l1 a t cl sc sr tS nc sP nn tL lP T gl br wc wr kd hf to K V nr zi_fu 0 h u e1 e2 e3 e4 e5 e6 e7 d1 co ro c1 c2 c3 c4 c5 c6 c7 c8) fun o => ∀ i, 0 ≤ i → i < 288 → o.2.2.2.2.2.2.2.2.2.1 i = yw_G B T gl a a.toNat i := by
  obtain ⟨⟨s1, s2, s3, s4⟩, sq2⟩ := sq
  refine zh_loop (F := fun f j (b : Int × Int × Int × Int × Int × Int × Int × Int × Int × (Int → Int) × (Int → Int) × (Int → Int) × (Int → Int) × (Int → Int) × (Int → Int) × (Int → Int) × (Int → Int) × (Int → Int) × (Int → Int) × (Int → Int)) => zf_X_log_l1 a t cl sc sr tS nc sP nn tL lP T gl br wc wr kd hf to K V nr f j b.1 b.2.1 b.2.2.1 b.2.2.2.1 b.2.2.2.2.1 b.2.2.2.2.2.1 b.2.2.2.2.2.2.1 b.2.2.2.2.2.2.2.1 b.2.2.2.2.2.2.2.2.1 b.2.2.2.2.2.2.2.2.2.1 b.2.2.2.2.2.2.2.2.2.2.1 b.2.2.2.2.2.2.2.2.2.2.2.1 b.2.2.2.2.2.2.2.2.2.2.2.2.1 b.2.2.2.2.2.2.2.2.2.2.2.2.2.1 b.2.2.2.2.2.2.2.2.2.2.2.2.2.2.1 b.2.2.2.2.2.2.2.2.2.2.2.2.2.2.2.1 b.2.2.2.2.2.2.2.2.2.2.2.2.2.2.2.2.1 b.2.2.2.2.2.2.2.2.2.2.2.2.2.2.2.2.2.1 b.2.2.2.2.2.2.2.2.2.2.2.2.2.2.2.2.2.2.1 b.2.2.2.2.2.2.2.2.2.2.2.2.2.2.2.2.2.2.2) (N := a) (I := fun j o => (o.1 = hs j.toNat ∧ o.2.1 = us j.toNat ∧ o.2.2.2.2.2.2.2.2.2.2.1 = cs j.toNat ∧ o.2.2.2.2.2.2.2.2.2.2.2.1 = rs j.toNat) ∧ (∀ i, 0 ≤ i → i < 288 → o.2.2.2.2.2.2.2.2.2.1 i = yw_G B T gl a j.toNat i) ∧ yw_so o.2.2.2.2.2.2.2.2.2.2.2.2.2.2.2.2.2.2.2) (fun f j b j0 j1 ha kk => ?_) 12 0 (h, u, e1, e2, e3, e4, e5, e6, e7, d1, co, ro, c1, c2, c3, c4, c5, c6, c7, c8) zi_fu (by omega) (by decide) n1 (by decide) ⟨⟨s1.symm, s2.symm, s3.symm, s4.symm⟩, hn, hso⟩
  obtain ⟨b1, b2, b3, b4, b5, b6, b7, b8, b9, b10, b11, b12, b13, b14, b15, b16, b17, b18, b19, b20⟩ := b
  obtain ⟨v, rfl⟩ : ∃ v : Nat, j = v := ⟨j.toNat, by omega⟩
  obtain ⟨⟨w1, w2, w3, w4⟩, a3, a4⟩ := ha
  have w1 : b1 = hs v := w1
  have w2 : b2 = us v := w2
  have w3 : b11 = cs v := w3
  have w4 : b12 = rs v := w4
  have a3 : ∀ i, 0 ≤ i → i < 288 → b10 i = yw_G B T gl a v i := a3
  have a4 : yw_so b20 := a4
  subst w1; subst w2; subst w3; subst w4
  show zh_ok (zf_X_log_l1_b a t cl sc sr tS nc sP nn tL lP T gl br wc wr kd hf to K V nr (zf_X_log_l1 a t cl sc sr tS nc sP nn tL lP T gl br wc wr kd hf to K V nr f) v (hs v) (us v) b3 b4 b5 b6 b7 b8 b9 b10 (cs v) (rs v) b13 b14 b15 b16 b17 b18 b19 b20) _
  unfold zf_X_log_l1_b
  refine zh_ite (fun hj => ?_) fun hj => zh_ret fun i i0 i1 => by
    rw [show a.toNat = v by omega]
    exact a3 i i0 i1
  rw [zi_w_id (x := (v : Int) + 1) (by omega) (by omega), zi_w_id (x := 2 * (v : Int)) (by omega) (by omega), zi_w_id (x := 2 * (v : Int) + 1) (by omega) (by omega), zi_w_id (x := a - 1) (by omega) (by omega)]
  obtain ⟨gA, e0, h0⟩ := ze_open (f := b3) (g := b13)
  obtain ⟨e7, gp, m, k, z⟩ := sq2 v
  rw [e0, zl_b, ze_byteAt (by omega) (by omega), zl_b, ze_byteAt (by omega) (by omega)]
  have sG : ∀ i, 0 ≤ i → i < 288 → b10 i = yw_G B T gl a v i ∧ yw_sv gl (yw_G B T gl a v i) := fun i i0 i1 => ⟨a3 i i0 i1, yw_G_sv i0 i1 v⟩
  have fin : ∀ q : Int × Int × Int × Int × Int × Int × Int × (Int → Int) × (Int → Int) × (Int → Int) × (Int → Int) × (Int → Int) × (Int → Int) × (Int → Int) × (Int → Int) × (Int → Int), ((∀ i, 0 ≤ i → i < 288 → q.2.2.2.2.2.2.2.1 i = yw_ks (B v) (T (2 * (v : Int))) (yw_G B T gl a v i)) ∧ yw_so q.2.2.2.2.2.2.2.2.2.2.2.2.2.2.2) → zh_ok (if (v : Int) < a - 1 then ((some (T (2 * (v : Int) + 1))).bind fun r39 => ((zf_X_moveSpots r39 q.2.2.2.2.2.2.2.1 gl).bind fun r40 => ((zf_Sky_passHour (hs v) (us v) (cs v) wc (rs v) wr).bind fun r41 => (zf_X_log_l1 a t cl sc sr tS nc sP nn tL lP T gl br wc wr kd hf to K V nr f ((v : Int) + 1) r41.1 r41.2.1 q.1 q.2.1 q.2.2.1 q.2.2.2.1 q.2.2.2.2.1 q.2.2.2.2.2.1 q.2.2.2.2.2.2.1 r40 r41.2.2.1 r41.2.2.2 q.2.2.2.2.2.2.2.2.1 q.2.2.2.2.2.2.2.2.2.1 q.2.2.2.2.2.2.2.2.2.2.1 q.2.2.2.2.2.2.2.2.2.2.2.1 q.2.2.2.2.2.2.2.2.2.2.2.2.1 q.2.2.2.2.2.2.2.2.2.2.2.2.2.1 q.2.2.2.2.2.2.2.2.2.2.2.2.2.2.1 q.2.2.2.2.2.2.2.2.2.2.2.2.2.2.2)))) else ((zf_Sky_passHour (hs v) (us v) (cs v) wc (rs v) wr).bind fun r38 => (zf_X_log_l1 a t cl sc sr tS nc sP nn tL lP T gl br wc wr kd hf to K V nr f ((v : Int) + 1) r38.1 r38.2.1 q.1 q.2.1 q.2.2.1 q.2.2.2.1 q.2.2.2.2.1 q.2.2.2.2.2.1 q.2.2.2.2.2.2.1 q.2.2.2.2.2.2.2.1 r38.2.2.1 r38.2.2.2 q.2.2.2.2.2.2.2.2.1 q.2.2.2.2.2.2.2.2.2.1 q.2.2.2.2.2.2.2.2.2.2.1 q.2.2.2.2.2.2.2.2.2.2.2.1 q.2.2.2.2.2.2.2.2.2.2.2.2.1 q.2.2.2.2.2.2.2.2.2.2.2.2.2.1 q.2.2.2.2.2.2.2.2.2.2.2.2.2.2.1 q.2.2.2.2.2.2.2.2.2.2.2.2.2.2.2))) fun o => ∀ i, 0 ≤ i → i < 288 → o.2.2.2.2.2.2.2.2.2.1 i = yw_G B T gl a a.toNat i := fun q hq => by
    have ev : ((v : Int) + 1).toNat = v + 1 := by omega
    refine zh_ite (fun hlt => ?_) fun hlt => ?_
    · rw [zl_b]
      refine zh_bind (yw_moveE z (D := fun i => yw_ks (B v) (T (2 * (v : Int))) (yw_G B T gl a v i)) fun i i0 i1 => ⟨hq.1 i i0 i1, yw_ks_sv (sG i i0 i1).2⟩) fun r40 h40 => ?_
      rw [e7, zl_b]
      refine kk (hs (v + 1), us (v + 1), q.1, q.2.1, q.2.2.1, q.2.2.2.1, q.2.2.2.2.1, q.2.2.2.2.2.1, q.2.2.2.2.2.2.1, r40, cs (v + 1), rs (v + 1), q.2.2.2.2.2.2.2.2.1, q.2.2.2.2.2.2.2.2.2.1, q.2.2.2.2.2.2.2.2.2.2.1, q.2.2.2.2.2.2.2.2.2.2.2.1, q.2.2.2.2.2.2.2.2.2.2.2.2.1, q.2.2.2.2.2.2.2.2.2.2.2.2.2.1, q.2.2.2.2.2.2.2.2.2.2.2.2.2.2.1, q.2.2.2.2.2.2.2.2.2.2.2.2.2.2.2) hj ⟨by rw [ev]; exact ⟨rfl, rfl, rfl, rfl⟩, fun i i0 i1 => ?_, hq.2⟩
      show r40 i = yw_G B T gl a ((v : Int) + 1).toNat i
      rw [ev, h40 i i0 i1]
      exact (if_pos (show (v : Int) + 1 < a by omega)).symm
    · rw [e7, zl_b]
      refine kk (hs (v + 1), us (v + 1), q.1, q.2.1, q.2.2.1, q.2.2.2.1, q.2.2.2.2.1, q.2.2.2.2.2.1, q.2.2.2.2.2.2.1, q.2.2.2.2.2.2.2.1, cs (v + 1), rs (v + 1), q.2.2.2.2.2.2.2.2.1, q.2.2.2.2.2.2.2.2.2.1, q.2.2.2.2.2.2.2.2.2.2.1, q.2.2.2.2.2.2.2.2.2.2.2.1, q.2.2.2.2.2.2.2.2.2.2.2.2.1, q.2.2.2.2.2.2.2.2.2.2.2.2.2.1, q.2.2.2.2.2.2.2.2.2.2.2.2.2.2.1, q.2.2.2.2.2.2.2.2.2.2.2.2.2.2.2) hj ⟨by rw [ev]; exact ⟨rfl, rfl, rfl, rfl⟩, fun i i0 i1 => ?_, hq.2⟩
      show q.2.2.2.2.2.2.2.1 i = yw_G B T gl a ((v : Int) + 1).toNat i
      rw [ev, hq.1 i i0 i1]
      exact (if_neg (show ¬ (v : Int) + 1 < a by omega)).symm
  exact zh_ite (fun e => zh_bind (yw_lg2XE R k tl (D := yw_G B T gl a v) yv_ca0 (yv_cp0 h0) a4 sG (hB v) (.inl ⟨rfl, e⟩)) fin) fun e => zh_bind (yw_lg2XE R k tl (D := yw_G B T gl a v) yv_ca0 (yv_cp0 h0) a4 sG (hB v) (.inr ⟨rfl, e⟩)) fin
theorem yw_lg2ME (R : yl_R L K V nc tS tL sP lP kd fr hf to mc C mk mf mh mt) (k : yk_sky t h u cl sc sr ch co ro br wc wr m) (z : yk_sea ts gp gl m) (tl : yk_tl ln nn nr tf tt) (hln : ln ≠ 0) {a x3 f3 f4 : Int} {A Bh sp d1 d2 d3 d4 d5 d6 D : Int → Int} (i0 : 0 ≤ x3) (i1 : x3 < 12) (hn : ∀ i, 0 ≤ i → i < 288 → sp i = D i ∧ yw_sv gl (D i)) {B : Int → Prop} (hB : ∀ v, B v ↔ ym_tv L tS t h u cl sc sr co ro br nr nn v) {T2 how : Int} (hA : A x3 = T2) (hH : x3 + 1 < a → Bh x3 = how) :
    zh_ok (zf_M_log_l2 a x3 ln mc nn A Bh m mk mh mt C tf tt zi_fu 0 f3 f4 sp d1 d2 d3 d4 d5 d6) fun o => ∀ i, 0 ≤ i → i < 288 → o.2.2.1 i = if x3 + 1 < a then yw_mv gl how (yw_ks B T2 (D i)) else yw_ks B T2 (D i) := by
  refine zh_loop (F := fun f j (b : Int × Int × (Int → Int) × (Int → Int) × (Int → Int) × (Int → Int) × (Int → Int) × (Int → Int) × (Int → Int)) => zf_M_log_l2 a x3 ln mc nn A Bh m mk mh mt C tf tt f j b.1 b.2.1 b.2.2.1 b.2.2.2.1 b.2.2.2.2.1 b.2.2.2.2.2.1 b.2.2.2.2.2.2.1 b.2.2.2.2.2.2.2.1 b.2.2.2.2.2.2.2.2) (N := 288) (I := fun j o => (∀ i, 0 ≤ i → i < j → o.2.2.1 i = if x3 + 1 < a then yw_mv gl how (yw_ks B T2 (D i)) else yw_ks B T2 (D i)) ∧ ∀ i, j ≤ i → i < 288 → o.2.2.1 i = D i) (fun f j b j0 j1 ha kk => ?_) 288 0 (f3, f4, sp, d1, d2, d3, d4, d5, d6) zi_fu (by decide) (by decide) (by decide) (by decide) ⟨fun i i0 i1 => by omega, fun i i0 i1 => (hn i i0 i1).1⟩
  obtain ⟨b1, b2, b3, b4, b5, b6, b7, b8, b9⟩ := b
  obtain ⟨a5, a6⟩ := ha
  dsimp only at a5 a6
  show zh_ok (zf_M_log_l2_b a x3 ln mc nn A Bh m mk mh mt C tf tt (zf_M_log_l2 a x3 ln mc nn A Bh m mk mh mt C tf tt f) j b1 b2 b3 b4 b5 b6 b7 b8 b9) _
  unfold zf_M_log_l2_b
  refine zh_ite (fun hj => ?_) fun _ => zh_ret fun i i0 i1 => a5 i i0 (by omega)
  rw [zi_w_id (x := j + 1) (by omega) (by omega), zi_w_id (x := x3 + 1) (by omega) (by omega), zl_ci j0 hj]
  have ej := a6 j (Int.le_refl _) hj
  have k2 : ∀ c1 c2 c3 c4 c5 c6 c7 c8 c9, (c3 j = if x3 + 1 < a then yw_mv gl how (yw_ks B T2 (D j)) else yw_ks B T2 (D j)) → (∀ i, i ≠ j → c3 i = b3 i) → zh_ok (zf_M_log_l2 a x3 ln mc nn A Bh m mk mh mt C tf tt f (j + 1) c1 c2 c3 c4 c5 c6 c7 c8 c9) _ := fun c1 c2 c3 c4 c5 c6 c7 c8 c9 p4 p5 => kk (c1, c2, c3, c4, c5, c6, c7, c8, c9) hj ⟨fun i i0 i1 => by
    by_cases e : i = j
    · subst e; exact p4
    · show c3 i = _
      rw [p5 i e]; exact a5 i i0 (by omega), fun i i0 i1 => by
    show c3 i = _
    rw [p5 i (by omega)]; exact a6 i (by omega) i1⟩
  have mvm : yw_mv gl how (-1) = -1 := if_pos rfl
  refine zh_ite (fun e => k2 _ _ _ _ _ _ _ _ _ ?_ fun _ _ => rfl) fun hne => ?_
  · rw [e]
    rw [ej] at e
    rw [e, yw_ks_m, mvm]
    split <;> rfl
  rw [ej] at hne ⊢
  obtain ⟨⟨v0, v1⟩, nl⟩ := (hn j j0 hj).2.resolve_left hne
  refine zh_bind (yw_cbtME R k tl hln v0 v1) fun r hr => ?_
  rw [zl_ci i0 (by omega), hA]
  have hBj := hB (D j)
  -- it stays, and goes on
  have go : yw_ks B T2 (D j) = D j → ∀ c1 c2 c3 c4 c5 c6 c7 c8, zh_ok (if x3 + 1 < a then ((zf_M_goesTo (D j) (Bh x3)).bind fun r40 => (if (zv_up b3 j r40) j = -1 then zf_M_log_l2 a x3 ln mc nn A Bh m mk mh mt C tf tt f (j + 1) c1 c2 (zv_up b3 j r40) c3 c4 c5 c6 c7 c8 else ((zf_M_isLand ((zv_up b3 j r40) j) m).bind fun q => (if q = 0 then zf_M_log_l2 a x3 ln mc nn A Bh m mk mh mt C tf tt f (j + 1) c1 c2 (zv_up b3 j r40) c3 c4 c5 c6 c7 c8 else zf_M_log_l2 a x3 ln mc nn A Bh m mk mh mt C tf tt f (j + 1) c1 c2 (zv_up (zv_up b3 j r40) j (-1)) c3 c4 c5 c6 c7 c8)))) else ((zf_M_isLand (D j) m).bind fun q => (if q = 0 then zf_M_log_l2 a x3 ln mc nn A Bh m mk mh mt C tf tt f (j + 1) c1 c2 b3 c3 c4 c5 c6 c7 c8 else zf_M_log_l2 a x3 ln mc nn A Bh m mk mh mt C tf tt f (j + 1) c1 c2 (zv_up b3 j (-1)) c3 c4 c5 c6 c7 c8))) fun o => ∀ i, 0 ≤ i → i < 288 → o.2.2.1 i = if x3 + 1 < a then yw_mv gl how (yw_ks B T2 (D i)) else yw_ks B T2 (D i) := fun hk c1 c2 c3 c4 c5 c6 c7 c8 => by
    refine zh_ite (fun hlt => ?_) fun hlt => ?_
    · rw [hH hlt, ze_goesTo v0 v1, zl_b, zv_up_s]
      have emv : yw_mv gl how (D j) = if yg_go (D j) how = -1 ∨ yg_ld gl (yg_go (D j) how) = true then -1 else yg_go (D j) how := if_neg hne
      refine zh_ite (fun e => k2 _ _ _ _ _ _ _ _ _ ?_ fun i hi => zv_up_n hi) fun e => ?_
      · rw [zv_up_s, if_pos hlt, hk, emv, if_pos (.inl e), e]
      · have gin := yg_go_in (how := how) v0 v1
        rw [ze_isLandM z (p := yg_go (D j) how) (by omega) (by omega), zl_b]
        by_cases l : yg_ld gl (yg_go (D j) how) = true
        · rw [if_pos l, if_neg (show ¬ (1 : Int) = 0 by decide)]
          refine k2 _ _ _ _ _ _ _ _ _ ?_ fun i hi => by rw [zv_up_n hi, zv_up_n hi]
          rw [zv_up_s, if_pos hlt, hk, emv, if_pos (.inr l)]
        · rw [if_neg l, if_pos rfl]
          refine k2 _ _ _ _ _ _ _ _ _ ?_ fun i hi => zv_up_n hi
          rw [zv_up_s, if_pos hlt, hk, emv, if_neg fun w => w.elim e l]
    · rw [ze_isLandM z v0 v1, zl_b, if_neg nl, if_pos rfl]
      refine k2 _ _ _ _ _ _ _ _ _ ?_ fun _ _ => rfl
      rw [ej, if_neg hlt, hk]
  have no : yw_ks B T2 (D j) = -1 → ∀ c1 c2 c3 c4 c5 c6 c7 c8, zh_ok (if (zv_up b3 j (-1)) j = -1 then zf_M_log_l2 a x3 ln mc nn A Bh m mk mh mt C tf tt f (j + 1) c1 c2 (zv_up b3 j (-1)) c3 c4 c5 c6 c7 c8 else ((zf_M_isLand ((zv_up b3 j (-1)) j) m).bind fun q => (if q = 0 then zf_M_log_l2 a x3 ln mc nn A Bh m mk mh mt C tf tt f (j + 1) c1 c2 (zv_up b3 j (-1)) c3 c4 c5 c6 c7 c8 else zf_M_log_l2 a x3 ln mc nn A Bh m mk mh mt C tf tt f (j + 1) c1 c2 (zv_up (zv_up b3 j (-1)) j (-1)) c3 c4 c5 c6 c7 c8))) fun o => ∀ i, 0 ≤ i → i < 288 → o.2.2.1 i = if x3 + 1 < a then yw_mv gl how (yw_ks B T2 (D i)) else yw_ks B T2 (D i) := fun hk c1 c2 c3 c4 c5 c6 c7 c8 => by
    rw [if_pos zv_up_s]
    refine k2 _ _ _ _ _ _ _ _ _ ?_ fun i hi => zv_up_n hi
    rw [zv_up_s, hk, mvm]
    split <;> rfl
  refine zh_ite (fun eT => ?_) fun eT => ?_
  · rcases hr.1 with ⟨c1, c2⟩ | ⟨c1, c2⟩
    · rw [if_pos c1]
      exact go (yw_ks_y hne ⟨fun _ => eT, fun _ => hBj.mpr c2⟩) _ _ _ _ _ _ _ _
    · rw [if_neg (show ¬ r.1 = 1 by rw [c1]; decide)]
      exact no (yw_ks_n hne fun w => c2 (hBj.mp (w.mpr eT))) _ _ _ _ _ _ _ _
  · rcases hr.1 with ⟨c1, c2⟩ | ⟨c1, c2⟩
    · rw [if_neg (show ¬ r.1 = 0 by rw [c1]; decide)]
      exact no (yw_ks_n hne fun w => eT (w.mp (hBj.mpr c2))) _ _ _ _ _ _ _ _
    · rw [if_pos c1]
      exact go (yw_ks_y hne ⟨fun w => absurd (hBj.mp w) c2, fun w => absurd w eT⟩) _ _ _ _ _ _ _ _
theorem yw_lg1ME (R : yl_R L K V nc tS tL sP lP kd fr hf to mc C mk mf mh mt) (sq : yw_sq t h u cl sc sr ch ts co ro br wc wr gl hs us cs rs) (k : yk_sky t h u cl sc sr ch co ro br wc wr m) (z : yk_sea ts gp gl m) (tl : yk_tl ln nn nr tf tt) (hln : ln ≠ 0) {a f3 f4 : Int} {A Bh sp d1 d2 d3 d4 d5 d6 : Int → Int} (n0 : 0 ≤ a) (n1 : a ≤ 12) {B : Nat → Int → Prop} (hB : ∀ j v, B j v ↔ ym_tv L tS t (hs j) (us j) cl sc sr (cs j) (rs j) br nr nn v) (hn : ∀ i, 0 ≤ i → i < 288 → sp i = yw_G B T gl a 0 i) (hA : ∀ i, 0 ≤ i → i < a → A i = T (2 * i) ∧ Bh i = T (2 * i + 1)) :
    zh_ok (zf_M_log_l1 a ln mc nn A Bh mk mh mt C tf tt zi_fu 0 f3 f4 sp m d1 d2 d3 d4 d5 d6) fun o => ∀ i, 0 ≤ i → i < 288 → o.2.2.1 i = yw_G B T gl a a.toNat i := by
  obtain ⟨⟨s1, s2, s3, s4⟩, sq2⟩ := sq
  refine zh_loop (F := fun f j (b : Int × Int × (Int → Int) × (Int → Int) × (Int → Int) × (Int → Int) × (Int → Int) × (Int → Int) × (Int → Int) × (Int → Int)) => zf_M_log_l1 a ln mc nn A Bh mk mh mt C tf tt f j b.1 b.2.1 b.2.2.1 b.2.2.2.1 b.2.2.2.2.1 b.2.2.2.2.2.1 b.2.2.2.2.2.2.1 b.2.2.2.2.2.2.2.1 b.2.2.2.2.2.2.2.2.1 b.2.2.2.2.2.2.2.2.2) (N := a) (I := fun j o => (∀ i, 0 ≤ i → i < 288 → o.2.2.1 i = yw_G B T gl a j.toNat i) ∧ ∃ gp, yk_sky t (hs j.toNat) (us j.toNat) cl sc sr ch (cs j.toNat) (rs j.toNat) br wc wr o.2.2.2.1 ∧ yk_sea ts gp gl o.2.2.2.1) (fun f j b j0 j1 ha kk => ?_) 12 0 (f3, f4, sp, m, d1, d2, d3, d4, d5, d6) zi_fu (by omega) (by decide) n0 (by decide) ⟨hn, gp, by show yk_sky t (hs 0) (us 0) cl sc sr ch (cs 0) (rs 0) br wc wr m; rw [s1, s2, s3, s4]; exact k, z⟩
  obtain ⟨b1, b2, b3, b4, b5, b6, b7, b8, b9, b10⟩ := b
  obtain ⟨v, rfl⟩ : ∃ v : Nat, j = v := ⟨j.toNat, by omega⟩
  obtain ⟨ha, gp, k2, z2⟩ := ha
  have ha : ∀ i, 0 ≤ i → i < 288 → b3 i = yw_G B T gl a v i := ha
  have k2 : yk_sky t (hs v) (us v) cl sc sr ch (cs v) (rs v) br wc wr b4 := k2
  have z2 : yk_sea ts gp gl b4 := z2
  show zh_ok (zf_M_log_l1_b a ln mc nn A Bh mk mh mt C tf tt (zf_M_log_l1 a ln mc nn A Bh mk mh mt C tf tt f) v b1 b2 b3 b4 b5 b6 b7 b8 b9 b10) _
  unfold zf_M_log_l1_b
  refine zh_ite (fun hj => ?_) fun _ => zh_ret fun i i0 i1 => by
    show b3 i = _
    rw [ha i i0 i1, show a.toNat = v by omega]
  rw [zi_w_id (x := (v : Int) + 1) (by omega) (by omega)]
  obtain ⟨h', u', co', ro', m', e6, e7, k3, e8⟩ := yk_pass k2
  have e9 := (sq2 v).1
  rw [e9] at e6
  cases e6
  obtain ⟨t1, t2⟩ := hA v j0 hj
  refine zh_bind (yw_lg2ME R k2 z2 tl hln (D := yw_G B T gl a v) j0 (by omega) (fun i i0 i1 => ⟨ha i i0 i1, yw_G_sv i0 i1 v⟩) (hB v) t1 fun _ => t2) fun q hq => ?_
  rw [e7, zl_b]
  have ev : ((v : Int) + 1).toNat = v + 1 := by omega
  refine kk (q.1, q.2.1, q.2.2.1, m', q.2.2.2.1, q.2.2.2.2.1, q.2.2.2.2.2.1, q.2.2.2.2.2.2.1, q.2.2.2.2.2.2.2.1, q.2.2.2.2.2.2.2.2) hj ⟨fun i i0 i1 => ?_, gp, ?_, yk_sea_fr z2 fun j hj => e8 j (by omega) (by omega) (by omega)⟩
  · show q.2.2.1 i = yw_G B T gl a ((v : Int) + 1).toNat i
    rw [ev, hq i i0 i1]; rfl
  · rw [ev]; exact k3
theorem yo_log {n n2 : Int} (R : yl_R L K V nc tS tL sP lP kd fr hf to mc C mk mf mh mt) (k : yk_sky t h u cl sc sr ch co ro br wc wr m) (z : yk_sea ts gp gl m) (p : yk_tape n n2 T M) (tl : yk_tl ln nn nr tf tt) {a w : Int} {f4 f6 f8 f10 f12 f14 f16 f20 f21 f22 f23 f25 f27 f34 f3 f5 : Int} {g1 g4 g6 g8 g10 g12 g13 g14 g19 g21 g22 g23 g25 g26 A B sp aA g S d1 d2 d3 d4 : Int → Int} (hso : yw_so g26) :
    ∃ o1 o2, zf_X_log a w ln n t f4 h f6 u f8 cl f10 sc f12 sr f14 ch f16 f20 f21 f22 f23 tS f25 nc f27 sP nn tL lP f34 T g1 gl co g4 ro g6 br g8 wc g10 wr g12 g13 g14 kd hf to K g19 V g21 g22 g23 nr g25 g26 = some o1 ∧ zf_M_log a w ln n2 mc f3 f5 nn A M B sp m aA mk g mh mt C S d1 d2 d3 tf tt d4 = some o2 ∧ o1.1 = o2.1 ∧
      (o1.2.1 = yw_logS a w ln n ∧ yw_so o1.2.2.2.2.2.2.2.2.2.2.2.2.2.2.2.2.2.2.2.2.2.2.2.2.2.2.2.2.2) ∧ (o2.2.1 = yw_logS a w ln n2 ∧ ∀ j, 0 ≤ j → j < 422 → o2.2.2.2.2.2.2.2.1 j = m j) := by
  obtain ⟨hn2, n0, n220, hT⟩ := id p
  have en2 := hn2.symm
  subst en2
  obtain ⟨oX, eX, hX⟩ := yw_logX (a := a) (w := w) (ln := ln) (n := n) (nn := nn) (f4 := f4) (f6 := f6) (f8 := f8) (f10 := f10) (f12 := f12) (f14 := f14) (f16 := f16) (f20 := f20) (f21 := f21) (f22 := f22) (f23 := f23) (f25 := f25) (f27 := f27) (f34 := f34) (nr := nr) (g1 := g1) (g4 := g4) (g6 := g6) (g8 := g8) (g10 := g10) (g12 := g12) (g13 := g13) (g14 := g14) (g19 := g19) (g21 := g21) (g22 := g22) (g23 := g23) (g25 := g25) R k z hT hso
  obtain ⟨oM, eM, hM⟩ := yw_logM (a := a) (w := w) (n := n) (f3 := f3) (f4 := f5) (A := A) (B := B) (sp := sp) (aA := aA) (g := g) (S := S) (d1 := d1) (d2 := d2) (d3 := d3) (d4 := d4) R k z hT tl
  refine ⟨oX, oM, eX, eM, ?_, hX, hM⟩
  clear hX hM
  unfold zf_X_log at eX
  unfold zf_M_log at eM
  rw [ze_X_isWithin, zl_b] at eX
  rw [ze_M_in, zl_b] at eM
  by_cases q1 : zs_in a 1 12 = 0
  · rw [if_pos q1] at eX eM
    cases eX; cases eM; rfl
  rw [if_neg q1, ze_X_isWithin, zl_b] at eX
  rw [if_neg q1, ze_M_in, zl_b] at eM
  by_cases q2 : zs_in w 0 1 = 0
  · rw [if_pos q2] at eX eM
    cases eX; cases eM; rfl
  rw [if_neg q2] at eX eM
  by_cases q3 : ln = 0
  · rw [if_pos q3] at eX eM
    cases eX; cases eM; rfl
  rw [if_neg q3] at eX eM
  obtain ⟨n1, n2⟩ := zs_in_ne q1
  rw [zi_w_id (x := 2 * a) (by omega) (by omega)] at eX eM
  unfold zf_Tape_take at eX
  by_cases q4 : n < 2 * a
  · rw [if_pos q4, zl_b, if_pos rfl] at eX
    rw [if_pos q4] at eM
    cases eX; cases eM; rfl
  rw [if_neg q4, zl_b, if_neg (show ¬ (1 : Int) = 0 by decide)] at eX
  rw [if_neg q4] at eM
  rcases yl_bytes (n := a) hT (by omega) n2 (A := A) (B := B) with ⟨A', B', y1, y2, y3⟩ | ⟨A', B', y1, y2⟩
  · rw [y1, zl_b, if_neg (show ¬ (1 : Int) = 0 by decide)] at eX
    rw [y2, zl_b, if_neg (show ¬ (1 : Int) = 0 by decide)] at eM
    obtain ⟨S1, S2, x1, x2, hS, -⟩ := yp_lay_l z 288 0 g1 sp zi_fu (by decide) (by decide) (by decide)
    rw [x1, zl_b] at eX
    unfold zf_Sky_copyFrom at eX
    rw [zl_b] at eX
    dsimp only at eX
    have k2 : yk_sky t h u cl sc sr ch (zv_cpy co g4 24) (zv_cpy ro g6 24) (zv_cpy br g8 24) (zv_cpy wc g10 24) (zv_cpy wr g12 24) m := yk_sky_cg k (fun j j1 j2 => zv_cpy_in j2) (fun j j1 j2 => zv_cpy_in j2) (fun j j1 j2 => zv_cpy_in j2) (fun j j1 j2 => zv_cpy_in j2) (fun j j1 j2 => zv_cpy_in j2) (fun _ _ _ => rfl)
    generalize zv_cpy co g4 24 = co2 at k2 eX
    generalize zv_cpy ro g6 24 = ro2 at k2 eX
    generalize zv_cpy br g8 24 = br2 at k2 eX
    generalize zv_cpy wc g10 24 = wc2 at k2 eX
    generalize zv_cpy wr g12 24 = wr2 at k2 eX
    obtain ⟨mA, e3, hA⟩ := ze_begins (g0 := m) (g := aA)
    rw [x2, zl_b, e3, zl_b] at eM
    obtain ⟨hs, us, cs, rs, sq⟩ := yw_sq_ex ⟨gp, m, k2, z⟩
    obtain ⟨q42, e42, h42⟩ := yw_lg1XE (a := a) (T := T) (e1 := f20) (e2 := f21) (e3 := f22) (e4 := f23) (e5 := f25) (e6 := f27) (e7 := f34) (d1 := S1) (c1 := g13) (c2 := g14) (c3 := g19) (c4 := g21) (c5 := g22) (c6 := g23) (c7 := g25) (c8 := g26) R sq tl (by omega) n2 hso (B := fun j v => ym_tv L tS t (hs j) (us j) cl sc sr (cs j) (rs j) br2 nr nn v) (fun _ _ => Iff.rfl) fun i i0 i1 => (hS i i0 i1).1
    obtain ⟨q49, e49, h49⟩ := yw_lg1ME (a := a) (T := T) (f3 := f3) (f4 := f5) (A := A') (Bh := B') (sp := S2) (d1 := g) (d2 := S) (d3 := d1) (d4 := d2) (d5 := d3) (d6 := d4) R sq k2 z tl q3 (by omega) n2 (B := fun j v => ym_tv L tS t (hs j) (us j) cl sc sr (cs j) (rs j) br2 nr nn v) (fun _ _ => Iff.rfl) (fun i i0 i1 => (hS i i0 i1).2) y3
    rw [e42, zl_b] at eX
    rw [e49, zl_b] at eM
    obtain ⟨m3, e4, h4⟩ := ze_again (g0 := mA) (g := q49.2.2.2.1)
    rw [e4, zl_b] at eM
    obtain ⟨c, f, r1, r2, r3⟩ := yp_count (A := q42.2.2.2.2.2.2.2.2.2.1) (B := q49.2.2.1) fun i i0 i1 => by rw [h42 i i0 i1, h49 i i0 i1]
    rw [r3, zl_b] at eM
    by_cases q5 : w = 0
    · rw [if_pos q5] at eX eM
      rw [r1, zl_b] at eX
      cases eX; cases eM; rfl
    · rw [if_neg q5] at eX eM
      rw [r2, zl_b] at eX
      cases eX; cases eM; rfl
  · rw [y1, zl_b, if_pos rfl] at eX
    rw [y2, zl_b, if_pos rfl] at eM
    cases eX; cases eM; rfl
end YWL
end
section
/-! Integer.bitCount of 28 bits. -/
theorem zs_pop4 {a b c d : Nat} (ha : a < 256) (hb : b < 256) (hc : c < 256) (hd : d < 256) : zs_s3 252645135 (zs_s2 858993459 (zs_s1 1431655765 (a + 256 * (b + 256 * (c + 256 * d))))) = zs_t a + 256 * (zs_t b + 256 * (zs_t c + 256 * zs_t d)) := by
  obtain ⟨a1, a2, a3, a4, a5⟩ := zs_t_d a ha
  obtain ⟨b1, b2, b3, b4, b5⟩ := zs_t_d b hb
  obtain ⟨c1, c2, c3, c4, c5⟩ := zs_t_d c hc
  obtain ⟨d1, d2, d3, d4, d5⟩ := zs_t_d d hd
  have e1 : zs_s1 1431655765 (a + 256 * (b + 256 * (c + 256 * d))) = zs_s1 85 a + 256 * (zs_s1 85 b + 256 * (zs_s1 85 c + 256 * zs_s1 85 d)) := by
    rw [show 1431655765 = 85 + 256 * (85 + 256 * (85 + 256 * 85)) from rfl, zs_s1_split ha, zs_s1_split hb, zs_s1_split hc]
  have e2 : zs_s2 858993459 (zs_s1 85 a + 256 * (zs_s1 85 b + 256 * (zs_s1 85 c + 256 * zs_s1 85 d))) = zs_s2 51 (zs_s1 85 a) + 256 * (zs_s2 51 (zs_s1 85 b) + 256 * (zs_s2 51 (zs_s1 85 c) + 256 * zs_s2 51 (zs_s1 85 d))) := by
    rw [show 858993459 = 51 + 256 * (51 + 256 * (51 + 256 * 51)) from rfl, zs_s2_split a3, zs_s2_split b3, zs_s2_split c3]
  rw [e1, e2, show 252645135 = 15 + 256 * (15 + 256 * (15 + 256 * 15)) from rfl, zs_s3_split a4 (by omega), zs_s3_split b4 (by omega), zs_s3_split c4 (by omega)]
  rfl
theorem zs_p_byte {a r : Nat} (ha : a < 256) : ∀ k : Nat, zs_p (a + 256 * r) (8 + k) = zs_p a 8 + zs_p r k
  | 0 => by
    have h : ∀ n : Nat, n < 8 → (a + 256 * r) / 2 ^ n % 2 = a / 2 ^ n % 2 := by
      intro n hn
      have : n = 0 ∨ n = 1 ∨ n = 2 ∨ n = 3 ∨ n = 4 ∨ n = 5 ∨ n = 6 ∨ n = 7 := by omega
      rcases this with rfl | rfl | rfl | rfl | rfl | rfl | rfl | rfl <;> simp only [Nat.reducePow] <;> omega
    simp only [zs_p, Nat.add_zero]
    rw [h 0 (by decide), h 1 (by decide), h 2 (by decide), h 3 (by decide), h 4 (by decide), h 5 (by decide), h 6 (by decide), h 7 (by decide)]
  | k + 1 => by
    have e : (a + 256 * r) / 2 ^ (8 + k) = r / 2 ^ k := by
      rw [Nat.pow_add, ← Nat.div_div_eq_div_mul, show (2 : Nat) ^ 8 = 256 from rfl, show (a + 256 * r) / 256 = r by omega]
    show zs_p (a + 256 * r) (8 + k) + (a + 256 * r) / 2 ^ (8 + k) % 2 = zs_p a 8 + (zs_p r k + r / 2 ^ k % 2)
    rw [zs_p_byte ha k, e, Nat.add_assoc]
theorem zs_last4 {p q r w u v : Nat} (hp : p ≤ 8) (hq : q ≤ 8) (hr : r ≤ 8) (hw : w ≤ 8) (hu : p + 256 * (q + 256 * (r + 256 * w)) = u) (hv : u + u / 256 = v) : (v + v / 65536) % 64 = p + q + r + w := by
  have v1 : u / 256 = q + 256 * (r + 256 * w) := by omega
  have v2 : v = (p + q + 256 * (q + r)) + 65536 * (r + w + 256 * w) := by omega
  have v3 : v / 65536 = r + w + 256 * w := by omega
  rw [v3, v2]
  have v4 : (p + q + 256 * (q + r)) + 65536 * (r + w + 256 * w) + (r + w + 256 * w) = (p + q + r + w) + 64 * (4 * (q + r) + 1024 * (r + w + 256 * w) + 4 * w) := by omega
  rw [v4, Nat.add_mul_mod_self_left]
  exact Nat.mod_eq_of_lt (by omega)
theorem ze_bitCount28 {x : Int} (h1 : 0 ≤ x) (h2 : x < 268435456) : zf_Integer_bitCount x = some (zs_sum x 32) := by
  obtain ⟨n, rfl⟩ : ∃ n : Nat, x = n := ⟨x.toNat, by omega⟩
  rw [zs_sum_p, Int.toNat_natCast]
  obtain ⟨a, b, c, d, ha, hb, hc, hd, e⟩ : ∃ a b c d : Nat, a < 256 ∧ b < 256 ∧ c < 256 ∧ d < 256 ∧ n = a + 256 * (b + 256 * (c + 256 * d)) := ⟨n % 256, n / 256 % 256, n / 65536 % 256, n / 16777216, by omega, by omega, by omega, by omega, by omega⟩
  obtain ⟨a1, a2, -⟩ := zs_t_d a ha
  obtain ⟨b1, b2, -⟩ := zs_t_d b hb
  obtain ⟨c1, c2, -⟩ := zs_t_d c hc
  obtain ⟨d1, d2, -⟩ := zs_t_d d hd
  have hp := zs_pop4 ha hb hc hd
  have hn : zs_p n 32 = zs_p a 8 + (zs_p b 8 + (zs_p c 8 + zs_p d 8)) := by
    rw [e, show 32 = 8 + (8 + (8 + 8)) from rfl, zs_p_byte ha, zs_p_byte hb, zs_p_byte hc]
  rw [← e] at hp
  unfold zf_Integer_bitCount zi_let
  have l1 : (n / 2) &&& 1431655765 ≤ n / 2 := Nat.and_le_left
  have s1 : zi_w ((n : Int) - zi_and (zi_ush (n : Int) 1) 1431655765) = ((zs_s1 1431655765 n : Nat) : Int) := by
    rw [show (1 : Int) = ((1 : Nat) : Int) from rfl, zi_shr_nat (by omega) (by decide), show (2 : Nat) ^ 1 = 2 from rfl, show (1431655765 : Int) = ((1431655765 : Nat) : Int) from rfl, zi_and_n (by omega) (by decide)]
    unfold zs_s1
    rw [zi_w_id (by omega) (by omega)]
    omega
  have q1 : zs_s1 1431655765 n ≤ n := by unfold zs_s1; omega
  generalize hy : zs_s1 1431655765 n = y at *
  have l2 : y &&& 858993459 ≤ y := Nat.and_le_left
  have l3 : (y / 4) &&& 858993459 ≤ y / 4 := Nat.and_le_left
  have s2 : zi_w (zi_and (y : Int) 858993459 + zi_and (zi_ush (y : Int) 2) 858993459) = ((zs_s2 858993459 y : Nat) : Int) := by
    rw [show (2 : Int) = ((2 : Nat) : Int) from rfl, zi_shr_nat (by omega) (by decide), show (2 : Nat) ^ 2 = 4 from rfl, show (858993459 : Int) = ((858993459 : Nat) : Int) from rfl, zi_and_n (by omega) (by decide), zi_and_n (by omega) (by decide)]
    unfold zs_s2
    rw [zi_w_id (by omega) (by omega)]
    omega
  have q2 : zs_s2 858993459 y ≤ 536870912 := by unfold zs_s2; omega
  rw [s1, s2]
  dsimp only
  generalize hz : zs_s2 858993459 y = z at *
  have s3 : zi_and (zi_w ((z : Int) + zi_ush (z : Int) 4)) 252645135 = ((zs_s3 252645135 z : Nat) : Int) := by
    rw [show (4 : Int) = ((4 : Nat) : Int) from rfl, zi_shr_nat (by omega) (by decide), show ((z : Int) + ((z / 2 ^ 4 : Nat) : Int)) = ((z + z / 16 : Nat) : Int) by omega, zi_w_n (by omega), show (252645135 : Int) = ((252645135 : Nat) : Int) from rfl, zi_and_n (by omega) (by decide)]
    rfl
  rw [s3, hp]
  generalize hu : zs_t a + 256 * (zs_t b + 256 * (zs_t c + 256 * zs_t d)) = u at *
  have s4 : zi_w ((u : Int) + zi_ush (u : Int) 8) = ((u + u / 256 : Nat) : Int) := by
    rw [show (8 : Int) = ((8 : Nat) : Int) from rfl, zi_shr_nat (by omega) (by decide), show ((u : Int) + ((u / 2 ^ 8 : Nat) : Int)) = ((u + u / 256 : Nat) : Int) by omega, zi_w_n (by omega)]
  rw [s4]
  generalize hv : u + u / 256 = v at *
  have s5 : zi_w ((v : Int) + zi_ush (v : Int) 16) = ((v + v / 65536 : Nat) : Int) := by
    rw [show (16 : Int) = ((16 : Nat) : Int) from rfl, zi_shr_nat (by omega) (by decide), show ((v : Int) + ((v / 2 ^ 16 : Nat) : Int)) = ((v + v / 65536 : Nat) : Int) by omega, zi_w_n (by omega)]
  rw [s5, show (63 : Int) = ((63 : Nat) : Int) from rfl, zi_and_n (by omega) (by decide), show (63 : Nat) = 2 ^ 6 - 1 from rfl, Nat.and_two_pow_sub_one_eq_mod]
  rw [hn, ← a1, ← b1, ← c1, ← d1, show (2 : Nat) ^ 6 = 64 from rfl, zs_last4 a2 b2 c2 d2 hu hv]
  congr 2
  omega
end
section
/-! named, in the class: the pairs that a star tells apart; the least cover. -/
def yd_tri : Nat → Nat
  | 0 => 0
  | n + 1 => yd_tri n + n
theorem yd_tri_le {a b : Nat} (h : a ≤ b) : yd_tri a ≤ yd_tri b := by
  induction b with
  | zero => rw [show a = 0 by omega]; exact Nat.le_refl _
  | succ b ih =>
    by_cases e : a = b + 1
    · rw [e]; exact Nat.le_refl _
    · have := ih (by omega)
      show yd_tri a ≤ yd_tri b + b
      omega
theorem yd_tri_8 {p q : Nat} (hq : q < p) (hp : p < 8) : yd_tri p + q < 28 := by
  have := yd_tri_le (show p + 1 ≤ 8 by omega)
  have e : yd_tri 8 = 28 := rfl
  have e2 : yd_tri (p + 1) = yd_tri p + p := rfl
  omega
theorem yd_tri_u {p q p' q' : Nat} (hq : q < p) (hq' : q' < p') (e : yd_tri p + q = yd_tri p' + q') : p = p' ∧ q = q' := by
  by_cases lt : p < p'
  · have := yd_tri_le (show p + 1 ≤ p' by omega)
    have e2 : yd_tri (p + 1) = yd_tri p + p := rfl
    omega
  · by_cases gt : p' < p
    · have := yd_tri_le (show p' + 1 ≤ p by omega)
      have e2 : yd_tri (p' + 1) = yd_tri p' + p' := rfl
      omega
    · have ep : p = p' := by omega
      subst ep
      exact ⟨rfl, by omega⟩
def z28 (a : Int) : Prop := 0 ≤ a ∧ a < 268435456
def zin (a : Int) : Prop := -2147483648 ≤ a ∧ a ≤ 2147483647
theorem z28_in {a : Int} (h : z28 a) : zin a := ⟨by have := h.1; omega, by have := h.2; omega⟩
theorem z28_of {a : Int} (hz : zin a) (h : ∀ j, zb a j = true → j < 28) : z28 a := by
  obtain ⟨a1, a2⟩ := hz
  have h0 : 0 ≤ a := by
    apply Int.not_lt.mp
    intro hn
    have hs : zb a 31 = false := Bool.eq_false_iff.mpr fun w => absurd (h 31 w) (by decide)
    unfold zb at hs
    have e2 : (Int32.ofInt a).toBitVec.toInt = a := zi_of a1 a2
    have hm : (Int32.ofInt a).toBitVec.msb = false := by
      rw [BitVec.msb_eq_getLsbD_last]; exact hs
    rw [BitVec.toInt_eq_msb_cond, hm] at e2
    simp at e2
    omega
  refine ⟨h0, ?_⟩
  have hl : a.toNat < 2 ^ 28 := Nat.lt_pow_two_of_testBit _ fun i hi => by
    rw [← zb_tb h0 a2]
    exact Bool.eq_false_iff.mpr fun w => absurd (h i w) (by omega)
  omega
theorem z28_b {a : Int} (h : z28 a) {j : Nat} (hj : zb a j = true) : j < 28 := by
  by_cases c : j < 28
  · exact c
  · obtain ⟨h1, h2⟩ := h
    rw [zb_tb h1 (by omega), Nat.testBit_lt_two_pow (Nat.lt_of_lt_of_le (show a.toNat < 2 ^ 28 by omega) (Nat.pow_le_pow_right (by decide) (by omega)))] at hj
    cases hj
theorem zin_ext {a b : Int} (ha : zin a) (hb : zin b) (h : ∀ j, zb a j = true ↔ zb b j = true) : a = b := zb_ext ha.1 ha.2 hb.1 hb.2 fun j _ => Bool.eq_iff_iff.mpr (h j)
theorem zin_and {a b : Int} : zin (zi_and a b) := zi_ev_in (op := fun x y => x &&& y) (a := a) (b := b)
theorem zin_or {a b : Int} : zin (zi_or a b) := zi_ev_in (op := fun x y => x ||| y) (a := a) (b := b)
theorem zin_0 : zin 0 := ⟨by decide, by decide⟩
theorem zin_and0 {a b : Int} : zi_and a b = 0 ↔ ∀ j, ¬ (zb a j = true ∧ zb b j = true) := by
  constructor
  · intro h j w
    have : zb (zi_and a b) j = true := by rw [zb_and, w.1, w.2]; rfl
    rw [h, zb_0] at this; cases this
  · intro h
    refine zin_ext zin_and zin_0 fun j => ?_
    rw [zb_and, Bool.and_eq_true, zb_0]
    exact ⟨fun w => absurd w (h j), fun w => (by cases w)⟩
/-- the pairs that a star tells apart -/
def yd_or (n i : Nat) (sh : Int → Int) (b : Nat) : Prop := ∃ p q : Nat, q < p ∧ p < n ∧ b = yd_tri p + q ∧ zb (sh p) i ≠ zb (sh q) i
theorem yd_pairs {n i : Nat} {sh : Int → Int} (hn : n ≤ 8) (hi : i < 24) : zh_ok (zf_Chooser_pairsApart (i : Int) (n : Int) sh) fun s => z28 s ∧ ∀ b, zb s b = true ↔ yd_or n i sh b := by
  unfold zf_Chooser_pairsApart
  refine zh_bind (Q := fun s => z28 s ∧ ∀ b, zb s b = true ↔ yd_or n i sh b) (zh_loop (F := fun f j (a : Int × Int) => zf_Chooser_pairsApart_l0 (i : Int) (n : Int) sh f a.1 a.2 j) (N := (n : Int)) (I := fun j a => a.2 = (yd_tri j.toNat : Int) ∧ zin a.1 ∧ ∀ b, zb a.1 b = true ↔ yd_or j.toNat i sh b) (fun f j a j0 j1 hI k => ?_) 8 0 (0, 0) zi_fu (by omega) (by decide) (by omega) (by decide) ⟨rfl, zin_0, fun b => by
    show zb 0 b = true ↔ _
    rw [zb_0]
    exact ⟨fun h => (by cases h), fun ⟨p, q, _, hp, _⟩ => by have hp : p < 0 := hp; omega⟩⟩) fun s hs => zh_ret hs
  obtain ⟨x3, x4⟩ := a
  obtain ⟨v, rfl⟩ : ∃ v : Nat, j = v := ⟨j.toNat, by omega⟩
  obtain ⟨h1, h2, h3⟩ := hI
  have h1 : x4 = (yd_tri v : Int) := h1
  have h2 : zin x3 := h2
  have h3 : ∀ b, zb x3 b = true ↔ yd_or v i sh b := h3
  show zh_ok (zf_Chooser_pairsApart_l0_b (i : Int) (n : Int) sh (zf_Chooser_pairsApart_l0 (i : Int) (n : Int) sh f) x3 x4 v) _
  unfold zf_Chooser_pairsApart_l0_b
  refine zh_ite (fun hj => ?_) fun hj => zh_ret ?_
  · rw [zi_w_id (x := (v : Int) + 1) (by omega) (by omega)]
    have ev : ((v : Int) + 1).toNat = v + 1 := by omega
    refine zh_bind (Q := fun o => o.2 = (yd_tri (v + 1) : Int) ∧ zin o.1 ∧ ∀ b, zb o.1 b = true ↔ yd_or (v + 1) i sh b) (zh_loop (F := fun f q (a : Int × Int) => zf_Chooser_pairsApart_l1 (i : Int) (v : Int) sh f a.1 a.2 q) (N := (v : Int)) (I := fun q a => a.2 = (yd_tri v : Int) + q ∧ zin a.1 ∧ ∀ b, zb a.1 b = true ↔ yd_or v i sh b ∨ ∃ q' : Nat, (q' : Int) < q ∧ b = yd_tri v + q' ∧ zb (sh v) i ≠ zb (sh q') i) (fun f q a q0 q1 hI k2 => ?_) 8 0 (x3, x4) zi_fu (by omega) (by decide) (by omega) (by decide) ⟨by rw [h1]; omega, h2, fun b => by
      show zb x3 b = true ↔ _
      rw [h3]
      exact ⟨fun h => .inl h, fun h => h.elim id fun ⟨q', hq, _⟩ => by omega⟩⟩) fun o ho => k (o.1, o.2) hj ⟨by rw [ev]; exact ho.1, ho.2.1, by rw [ev]; exact ho.2.2⟩
    obtain ⟨y3, y4⟩ := a
    obtain ⟨u, rfl⟩ : ∃ u : Nat, q = u := ⟨q.toNat, by omega⟩
    obtain ⟨g1, g2, g3⟩ := hI
    have g1 : y4 = (yd_tri v : Int) + u := g1
    have g2 : zin y3 := g2
    have g3 : ∀ b, zb y3 b = true ↔ yd_or v i sh b ∨ ∃ q' : Nat, (q' : Int) < (u : Int) ∧ b = yd_tri v + q' ∧ zb (sh v) i ≠ zb (sh q') i := g3
    show zh_ok (zf_Chooser_pairsApart_l1_b (i : Int) (v : Int) sh (zf_Chooser_pairsApart_l1 (i : Int) (v : Int) sh f) y3 y4 u) _
    unfold zf_Chooser_pairsApart_l1_b
    refine zh_ite (fun hq => ?_) fun hq => zh_ret ?_
    · have lt := yd_tri_8 (p := v) (q := u) (by omega) (by omega)
      rw [zl_ci (a := (v : Int)) (by omega) (by omega), zl_ci q0 (by omega), zi_w_id (x := (u : Int) + 1) (by omega) (by omega), zi_w_id (x := y4 + 1) (by omega) (by omega)]
      have ey : y4 = ((yd_tri v + u : Nat) : Int) := by omega
      by_cases hb : zb (zi_xor (sh v) (sh u)) i = true
      · have hne : zb (sh v) i ≠ zb (sh u) i := by
          rw [zb_xor] at hb
          intro e
          rw [e, Bool.xor_self] at hb; cases hb
        rw [zb_bit1 (t := zi_xor (sh v) (sh u)) (i := (i : Int)) (by omega) (by omega) hb, if_neg (show ¬ (1 : Int) = 0 by decide)]
        refine k2 (_, _) hq ⟨by show y4 + 1 = _; omega, zin_or, fun b => ?_⟩
        show zb (zi_or y3 (zi_shl 1 y4)) b = true ↔ _
        rw [zb_or, Bool.or_eq_true, g3, ey, zb_shl (by omega) (by omega), decide_eq_true_iff, Int.toNat_natCast]
        constructor
        · rintro ((h | ⟨q', w1, w2⟩) | h)
          · exact .inl h
          · exact .inr ⟨q', by omega, w2⟩
          · exact .inr ⟨u, by omega, h, hne⟩
        · rintro (h | ⟨q', w1, w2, w3⟩)
          · exact .inl (.inl h)
          · by_cases e : q' = u
            · subst e; exact .inr w2
            · exact .inl (.inr ⟨q', by omega, w2, w3⟩)
      · have heq : zb (sh v) i = zb (sh u) i := by
          rw [zb_xor] at hb
          cases a : zb (sh v) i <;> cases b : zb (sh u) i <;> rw [a, b] at hb <;> first | rfl | exact absurd rfl hb
        rw [zb_bit0 (t := zi_xor (sh v) (sh u)) (i := (i : Int)) (by omega) (by omega) hb, if_pos rfl]
        refine k2 (_, _) hq ⟨by show y4 + 1 = _; omega, g2, fun b => ?_⟩
        show zb y3 b = true ↔ _
        rw [g3]
        constructor
        · rintro (h | ⟨q', w1, w2⟩)
          · exact .inl h
          · exact .inr ⟨q', by omega, w2⟩
        · rintro (h | ⟨q', w1, w2, w3⟩)
          · exact .inl h
          · by_cases e : q' = u
            · subst e; exact absurd heq w3
            · exact .inr ⟨q', by omega, w2, w3⟩
    · have eu : u = v := by omega
      subst eu
      refine ⟨by show y4 = ((yd_tri u + u : Nat) : Int); omega, g2, fun b => ?_⟩
      show zb y3 b = true ↔ _
      rw [g3]
      constructor
      · rintro (⟨p, q, w1, w2, w3⟩ | ⟨q', w1, w2, w3⟩)
        · exact ⟨p, q, w1, by omega, w3⟩
        · exact ⟨u, q', by omega, by omega, w2, w3⟩
      · rintro ⟨p, q, w1, w2, w3, w4⟩
        by_cases e : p = u
        · subst e; exact .inr ⟨q, by omega, w3, w4⟩
        · exact .inl ⟨p, q, w1, by omega, w3, w4⟩
  · have ev : v = n := by omega
    subst ev
    refine ⟨z28_of h2 fun b hb => ?_, h3⟩
    obtain ⟨p, q, w1, w2, w3, -⟩ := (h3 b).mp hb
    rw [w3]
    exact yd_tri_8 w1 (by omega)
/-- cover -/
def yd_cv (g : Int → Int) (c need : Int) : Prop := ∀ b, zb need b = true → ∃ i : Nat, i < 24 ∧ zb c i = true ∧ zb (g i) b = true
theorem yd_or_add {a : Int} {m : Nat} (ha : z24 a) (hb : ∀ j, zb a j = true → j < m) (hm : m < 24) : zi_or a (zi_shl 1 (m : Int)) = a + ((2 ^ m : Nat) : Int) ∧ a < ((2 ^ m : Nat) : Int) := by
  have hl : a.toNat < 2 ^ m := Nat.lt_pow_two_of_testBit _ fun i hi => by
    rw [← zb_tb ha.1 (by have := ha.2; omega)]
    exact Bool.eq_false_iff.mpr fun w => absurd (hb i w) (by omega)
  have h0 := ha.1
  have h2 := ha.2
  refine ⟨?_, by omega⟩
  rw [zi_set h0 (by omega) (by omega) (by omega), Int.toNat_natCast]
  have e := Nat.two_pow_add_eq_or_of_lt hl 1
  rw [Nat.mul_one] at e
  rw [Nat.or_comm, ← e]
  omega
theorem yd_cover {g up : Int → Int} (hu : ∀ j : Nat, j < 24 → ∀ b, zb (up j) b = true ↔ ∃ l : Nat, l ≤ j ∧ zb (g l) b = true) : ∀ (n w : Nat) (x1 x2 x3 : Int), x1 < n → 0 ≤ x1 → x1 ≤ 100 → 0 ≤ x2 → x2 ≤ 24 → z28 x3 →
    (∀ c, z24 c → (∀ j : Nat, zb c j = true → (j : Int) < x2) → yn_n (zb c) 24 < x1 → ¬ yd_cv g c x3) →
    zh_ok (zg_Chooser_leastCover n w x1 x2 x3 g up) fun r => (r = -1 ∧ ∀ c, z24 c → (∀ j : Nat, zb c j = true → (j : Int) < x2) → yn_n (zb c) 24 = x1 → ¬ yd_cv g c x3) ∨ (r ≠ -1 ∧ z24 r ∧ (∀ j : Nat, zb r j = true → (j : Int) < x2) ∧ yn_n (zb r) 24 = x1 ∧ yd_cv g r x3 ∧ ∀ c, z24 c → (∀ j : Nat, zb c j = true → (j : Int) < x2) → yn_n (zb c) 24 = x1 → yd_cv g c x3 → r ≤ c) := by
  intro n
  induction n with
  | zero => intro w x1 x2 x3 h1 h2; omega
  | succ n ih =>
    intro w x1 x2 x3 h1 h2 h3 h4 h5 h6 hmin
    show zh_ok (zm_Chooser_leastCover (zg_Chooser_leastCover n) x1 x2 x3 g up) _
    unfold zm_Chooser_leastCover
    refine zh_ite (fun hpos => ?_) fun hpos => ?_
    · refine zh_sum (Q := fun o => match o with
        | .inl _ => ∀ c, z24 c → (∀ j : Nat, zb c j = true → (j : Int) < x2) → yn_n (zb c) 24 = x1 → ¬ yd_cv g c x3
        | .inr r => r ≠ -1 ∧ z24 r ∧ (∀ j : Nat, zb r j = true → (j : Int) < x2) ∧ yn_n (zb r) 24 = x1 ∧ yd_cv g r x3 ∧ ∀ c, z24 c → (∀ j : Nat, zb c j = true → (j : Int) < x2) → yn_n (zb c) 24 = x1 → yd_cv g c x3 → r ≤ c) (zh_loop (F := fun n2 j (_ : Unit) => zm_Chooser_leastCover_l0 (zg_Chooser_leastCover n) x1 x2 x3 g up n2 j) (N := x2) (I := fun i _ => ∀ c, z24 c → (∀ j : Nat, zb c j = true → (j : Int) < i) → yn_n (zb c) 24 = x1 → ¬ yd_cv g c x3) (fun n2 i _ i0 i1 hI k => ?_) 24 0 () zi_fu (by omega) (by decide) h4 (by decide) fun c c1 c2 c3 => ?_) (fun _ ha => zh_ret (.inl ⟨rfl, ha⟩)) fun r hr => zh_ret (.inr hr)
      · show zh_ok (zm_Chooser_leastCover_l0_b (zg_Chooser_leastCover n) x1 x2 x3 g up (zm_Chooser_leastCover_l0 (zg_Chooser_leastCover n) x1 x2 x3 g up n2) i) _
        unfold zm_Chooser_leastCover_l0_b
        refine zh_ite (fun hi => ?_) fun hi => zh_ret fun c c1 c2 => hI c c1 fun j hj => by have := c2 j hj; omega
        rw [if_pos (show i < 24 by omega), zl_ci i0 (by omega), zi_w_id (x := i + 1) (by omega) (by omega), zi_w_id (x := x1 - 1) (by omega) (by omega)]
        obtain ⟨m, rfl⟩ : ∃ m : Nat, i = m := ⟨i.toNat, by omega⟩
        have hm : m < 24 := by omega
        -- a set up to m, without m
        have cut : ∀ c, z24 c → (∀ j : Nat, zb c j = true → (j : Int) < (m : Int) + 1) → zb c m = true → z24 (zi_and c (zi_xor (zi_shl 1 (m : Int)) (-1))) ∧ (∀ j : Nat, zb (zi_and c (zi_xor (zi_shl 1 (m : Int)) (-1))) j = true → (j : Int) < (m : Int) ∧ zb c j = true) ∧ (∀ j : Nat, zb c j = true → j ≠ m → zb (zi_and c (zi_xor (zi_shl 1 (m : Int)) (-1))) j = true) := fun c c1 c2 c3 => by
          have zc := z24_and (b := zi_xor (zi_shl 1 (m : Int)) (-1)) c1
          refine ⟨zc, fun j hj => ?_, fun j hj hjm => ?_⟩
          · have j24 : j < 24 := by
              by_cases q : j < 24
              · exact q
              · rw [z24_b zc (by omega)] at hj; cases hj
            rw [zb_clr (by omega) (by omega) j24, Bool.and_eq_true, Bool.not_eq_true', decide_eq_false_iff_not, Int.toNat_natCast] at hj
            have := c2 j hj.1
            exact ⟨by omega, hj.1⟩
          · have j24 := c2 j hj
            rw [zb_clr (by omega) (by omega) (by omega), hj, decide_eq_false (by omega)]; rfl
        have step : (∀ c, z24 c → (∀ j : Nat, zb c j = true → (j : Int) < (m : Int) + 1) → zb c m = true → yn_n (zb c) 24 = x1 → ¬ yd_cv g c x3) → zh_ok (zm_Chooser_leastCover_l0 (zg_Chooser_leastCover n) x1 x2 x3 g up n2 ((m : Int) + 1)) _ := fun h => k () hi fun c c1 c2 c3 => by
          by_cases q : zb c m = true
          · exact h c c1 c2 q c3
          · refine hI c c1 (fun j hj => ?_) c3
            have := c2 j hj
            by_cases e : j = m
            · subst e; exact absurd hj q
            · omega
        refine zh_ite (fun hz => step fun c c1 c2 c3 c4 c5 => ?_) fun hz => zh_ite (fun hup => ?_) fun hup => step fun c c1 c2 c3 c4 c5 => ?_
        · obtain ⟨d1, d2, d3⟩ := cut c c1 c2 c3
          have cnt := yn_clr hm c3
          refine hmin _ d1 (fun j hj => by have := (d2 j hj).1; omega) (by omega) fun b hb => ?_
          obtain ⟨l, l1, l2, l3⟩ := c5 b hb
          refine ⟨l, l1, d3 l l2 fun e => ?_, l3⟩
          subst e
          exact zin_and0.mp hz b ⟨l3, hb⟩
        · obtain ⟨nd, end'⟩ : ∃ nd, nd = zi_and x3 (zi_xor (g (m : Int)) (-1)) := ⟨_, rfl⟩
          rw [← end']
          have bnd : ∀ b, zb nd b = true ↔ zb x3 b = true ∧ ¬ zb (g (m : Int)) b = true := fun b => by
            rw [end', zb_and]
            by_cases q : b < 32
            · rw [zb_not q, Bool.and_eq_true, Bool.not_eq_true', Bool.not_eq_true]
            · rw [zb_ge (a := x3) (by omega), Bool.false_and]
              exact ⟨fun w => (by cases w), fun w => (by cases w.1)⟩
          have znd : z28 nd := z28_of (by rw [end']; exact zin_and) fun b hb => z28_b h6 ((bnd b).mp hb).1
          have up' : ∀ c, yd_cv g c nd → z24 c → (∀ j : Nat, zb c j = true → (j : Int) < (m : Int)) → z24 (zi_or c (zi_shl 1 (m : Int))) ∧ yd_cv g (zi_or c (zi_shl 1 (m : Int))) x3 ∧ yn_n (zb (zi_or c (zi_shl 1 (m : Int)))) 24 = yn_n (zb c) 24 + 1 ∧ ∀ j : Nat, zb (zi_or c (zi_shl 1 (m : Int))) j = true ↔ zb c j = true ∨ j = m := fun c c1 c2 c3 => by
            have bb : ∀ j : Nat, zb (zi_or c (zi_shl 1 (m : Int))) j = true ↔ zb c j = true ∨ j = m := fun j => by
              rw [zb_or, Bool.or_eq_true, zb_shl (by omega) (by omega), decide_eq_true_iff, Int.toNat_natCast]
            refine ⟨z24_or c2 (z24_shl (by omega) (by omega)), fun b hb => ?_, ?_, bb⟩
            · by_cases q : zb (g (m : Int)) b = true
              · exact ⟨m, hm, (bb m).mpr (.inr rfl), q⟩
              · obtain ⟨l, l1, l2, l3⟩ := c1 b ((bnd b).mpr ⟨hb, q⟩)
                exact ⟨l, l1, (bb l).mpr (.inl l2), l3⟩
            · refine yn_add (k := m) (Bool.eq_false_iff.mpr fun w => by have := c3 m w; omega) ((bb m).mpr (.inr rfl)) 24 hm fun j _ hj => ?_
              rw [Bool.eq_iff_iff, bb]
              exact ⟨fun w => .inl w, fun w => w.elim id fun w => absurd w hj⟩
          have down : ∀ c, yd_cv g c x3 → z24 c → (∀ j : Nat, zb c j = true → (j : Int) < (m : Int) + 1) → zb c m = true → yd_cv g (zi_and c (zi_xor (zi_shl 1 (m : Int)) (-1))) nd := fun c c1 c2 c3 c4 b hb => by
            obtain ⟨d1, d2, d3⟩ := cut c c2 c3 c4
            obtain ⟨e1, e2⟩ := (bnd b).mp hb
            obtain ⟨l, l1, l2, l3⟩ := c1 b e1
            exact ⟨l, l1, d3 l l2 fun e => by subst e; exact e2 l3, l3⟩
          refine zh_bind (ih 0 (x1 - 1) (m : Int) nd (by omega) (by omega) (by omega) (by omega) (by omega) znd fun c c1 c2 c3 c4 => ?_) fun r hr => ?_
          · obtain ⟨u1, u2, u3, u4⟩ := up' c c4 c1 c2
            exact hmin _ u1 (fun j hj => by
              rcases (u4 j).mp hj with w | w
              · have := c2 j w; omega
              · omega) (by omega) u2
          · rcases hr with ⟨r1, r2⟩ | ⟨r1, r2, r3, r4, r5, r6⟩
            · rw [if_pos r1]
              refine step fun c c1 c2 c3 c4 c5 => ?_
              obtain ⟨d1, d2, d3⟩ := cut c c1 c2 c3
              have cnt := yn_clr hm c3
              exact r2 _ d1 (fun j hj => (d2 j hj).1) (by omega) (down c c5 c1 c2 c3)
            · rw [if_neg r1]
              obtain ⟨u1, u2, u3, u4⟩ := up' r r5 r2 r3
              obtain ⟨a1, a2⟩ := yd_or_add r2 (fun j hj => by have := r3 j hj; omega) hm
              have hr0 := r2.1
              refine zh_ret ⟨by have := u1.1; omega, u1, fun j hj => ?_, by omega, u2, fun c c1 c2 c3 c4 => ?_⟩
              · rcases (u4 j).mp hj with w | w
                · have := r3 j w; omega
                · omega
              · rw [a1]
                by_cases hb : ∃ j : Nat, zb c j = true ∧ m < j
                · obtain ⟨j, j1, j2⟩ := hb
                  rw [zb_tb c1.1 (by have := c1.2; omega)] at j1
                  have l1 := Nat.ge_two_pow_of_testBit j1
                  have l2 : 2 ^ (m + 1) ≤ 2 ^ j := Nat.pow_le_pow_right (by decide) (by omega)
                  rw [Nat.pow_succ] at l2
                  have := c1.1
                  omega
                · have c2' : ∀ j : Nat, zb c j = true → (j : Int) < (m : Int) + 1 := fun j hj => by
                    by_cases q : m < j
                    · exact absurd ⟨j, hj, q⟩ hb
                    · omega
                  by_cases q : zb c m = true
                  · obtain ⟨d1, d2, d3⟩ := cut c c1 c2' q
                    have cnt := yn_clr hm q
                    have le := r6 _ d1 (fun j hj => (d2 j hj).1) (by omega) (down c c4 c1 c2' q)
                    obtain ⟨b1, -⟩ := yd_or_add d1 (fun j hj => by have := (d2 j hj).1; omega) hm
                    rw [yh_back (w := (m : Int)) c1 (by omega) (by omega) q] at b1
                    omega
                  · exact absurd c4 (hI c c1 (fun j hj => by
                      have := c2' j hj
                      by_cases e : j = m
                      · subst e; exact absurd hj q
                      · omega) c3)
        · refine hup (zin_ext zin_and (z28_in h6) fun b => ?_)
          rw [zb_and, Bool.and_eq_true]
          refine ⟨fun w => w.2, fun w => ⟨?_, w⟩⟩
          obtain ⟨l, l1, l2, l3⟩ := c5 b w
          exact (hu m hm b).mpr ⟨l, by have := c2 l l2; omega, l3⟩
      · have e : c = 0 := (z24_z c1).mpr fun j _ => Bool.eq_false_iff.mpr fun w => by have := c2 j w; omega
        rw [e] at c3
        have : yn_n (zb 0) 24 = 0 := by decide +kernel
        omega
    · have n0 : yn_n (zb 0) 24 = 0 := by decide +kernel
      refine zh_ite (fun e => zh_ret (.inr ⟨by decide, z24_0, fun j hj => (by rw [zb_0] at hj; cases hj), by omega, fun b hb => (by rw [e, zb_0] at hb; cases hb), fun c c1 _ _ _ => c1.1⟩)) fun e => zh_ret (.inl ⟨rfl, fun c c1 c2 c3 c4 => e (zin_ext (z28_in h6) zin_0 fun b => ?_)⟩)
      rw [zb_0]
      refine ⟨fun w => ?_, fun w => (by cases w)⟩
      obtain ⟨l, l1, l2, -⟩ := c4 b w
      have l3 := yn_lt (f := fun _ => false) (g := zb c) (k := l) (by decide) l2 24 l1 fun i _ hi => (by cases hi)
      have l4 := (yn_in (f := fun _ => false) 24).1
      generalize yn_n (fun _ => false) 24 = a at l3 l4
      generalize yn_n (zb c) 24 = b2 at l3 c3
      omega
end
section
/-! named, in the class: the fewest stars, of like ones the least bits. -/
theorem yd_lt {x y i : Nat} (hx : x.testBit i = false) (hy : y.testBit i = true) (h : ∀ j, i < j → x.testBit j = y.testBit j) : x < y := by
  have e : x / 2 ^ (i + 1) = y / 2 ^ (i + 1) := Nat.eq_of_testBit_eq fun j => by
    rw [Nat.testBit_div_two_pow, Nat.testBit_div_two_pow]
    exact h _ (by omega)
  have mx : x % 2 ^ (i + 1) < 2 ^ i := Nat.lt_pow_two_of_testBit _ fun j hj => by
    rw [Nat.testBit_mod_two_pow]
    by_cases c : j < i + 1
    · rw [show j = i by omega, hx, Bool.and_false]
    · rw [decide_eq_false c, Bool.false_and]
  have my : 2 ^ i ≤ y % 2 ^ (i + 1) := Nat.ge_two_pow_of_testBit (by rw [Nat.testBit_mod_two_pow, decide_eq_true (Nat.lt_succ_self i), hy]; rfl)
  have ex := Nat.div_add_mod x (2 ^ (i + 1))
  have ey := Nat.div_add_mod y (2 ^ (i + 1))
  rw [e] at ex
  generalize 2 ^ (i + 1) * (y / 2 ^ (i + 1)) = A at ex ey
  omega
theorem yd_ix : ∀ {n b : Nat}, b < yd_tri n → ∃ p q : Nat, q < p ∧ p < n ∧ b = yd_tri p + q
  | n + 1, b, h => by
    by_cases c : b < yd_tri n
    · obtain ⟨p, q, h1, h2, h3⟩ := yd_ix c
      exact ⟨p, q, h1, by omega, h3⟩
    · have h : b < yd_tri n + n := h
      exact ⟨n, b - yd_tri n, by omega, by omega, by omega⟩
def yd_Cv (n : Nat) (sh : Int → Int) (c : Int) : Prop := ∀ p q : Nat, q < p → p < n → ∃ i : Nat, i < 24 ∧ zb c i = true ∧ zb (sh p) i ≠ zb (sh q) i
/-- the least of those that tell all apart -/
def yd_M (n : Nat) (sh : Int → Int) (f : Int) : Prop := z24 f ∧ yd_Cv n sh f ∧ ∀ c, z24 c → yd_Cv n sh c → yn_n (zb f) 24 ≤ yn_n (zb c) 24 ∧ (yn_n (zb c) 24 = yn_n (zb f) 24 → f ≤ c)
theorem yd_M_ex {n : Nat} {sh : Int → Int} : ∀ (N : Nat) (c : Int), z24 c → yd_Cv n sh c → (yn_n (zb c) 24).toNat * 16777216 + c.toNat ≤ N → ∃ f, yd_M n sh f := by
  intro N
  induction N with
  | zero =>
    intro c c1 c2 c3
    refine ⟨c, c1, c2, fun d d1 d2 => ?_⟩
    have a := (yn_in (f := zb c) 24).1
    have b := (yn_in (f := zb d) 24).1
    have := c1.1
    have := d1.1
    generalize yn_n (zb c) 24 = x at *
    generalize yn_n (zb d) 24 = y at *
    omega
  | succ N ih =>
    intro c c1 c2 c3
    by_cases q : ∃ d, z24 d ∧ yd_Cv n sh d ∧ (yn_n (zb d) 24).toNat * 16777216 + d.toNat < (yn_n (zb c) 24).toNat * 16777216 + c.toNat
    · obtain ⟨d, d1, d2, d3⟩ := q
      exact ih d d1 d2 (Nat.le_of_lt_succ (Nat.lt_of_lt_of_le d3 c3))
    · refine ⟨c, c1, c2, fun d d1 d2 => ?_⟩
      have l : ¬ (yn_n (zb d) 24).toNat * 16777216 + d.toNat < (yn_n (zb c) 24).toNat * 16777216 + c.toNat := fun w => q ⟨d, d1, d2, w⟩
      have a := (yn_in (f := zb c) 24).1
      have b := (yn_in (f := zb d) 24).1
      have := c1.1
      have := c1.2
      have := d1.1
      have := d1.2
      clear c3 q ih
      generalize yn_n (zb c) 24 = x at *
      generalize yn_n (zb d) 24 = y at *
      omega
theorem yd_M_u {n : Nat} {sh : Int → Int} {f g : Int} (h1 : yd_M n sh f) (h2 : yd_M n sh g) : f = g := by
  have a := h1.2.2 g h2.1 h2.2.1
  have b := h2.2.2 f h1.1 h1.2.1
  have e : yn_n (zb f) 24 = yn_n (zb g) 24 := Int.le_antisymm a.1 b.1
  exact Int.le_antisymm (a.2 e.symm) (b.2 e)
/-- parts, as they are kept: of like stars the lowest has them -/
def yd_Pt (n : Nat) (sh g : Int → Int) (j : Nat) : Prop := zin (g j) ∧ ((∀ b, zb (g j) b = true ↔ yd_or n j sh b) ∨ (g j = 0 ∧ ∃ l : Nat, l < j ∧ ∀ b, zb (g l) b = true ↔ yd_or n j sh b))
section YDF
variable {n : Nat} {sh g : Int → Int}
theorem yd_l1 {i : Nat} (hi : i < 24) {v : Int} (hv : g i = v) : zh_ok (zf_Chooser_fewestNamed_l1 (i : Int) zi_fu 0 g) fun o => (∀ j : Nat, j ≠ i → o j = g j) ∧ (o i = v ∨ (o i = 0 ∧ ∃ l : Nat, l < i ∧ g l = v)) := by
  refine zh_loop (F := fun f u (a : Int → Int) => zf_Chooser_fewestNamed_l1 (i : Int) f u a) (N := (i : Int)) (I := fun u a => (∀ j : Nat, j ≠ i → a j = g j) ∧ (a i = v ∨ (a i = 0 ∧ ∃ l : Nat, l < i ∧ g l = v))) (fun f u a u0 u1 hI k => ?_) 24 0 g zi_fu (by omega) (by decide) (by omega) (by decide) ⟨fun _ _ => rfl, .inl hv⟩
  show zh_ok (zf_Chooser_fewestNamed_l1_b (i : Int) (zf_Chooser_fewestNamed_l1 (i : Int) f) u a) _
  unfold zf_Chooser_fewestNamed_l1_b
  refine zh_ite (fun hu => ?_) fun _ => zh_ret hI
  obtain ⟨m, rfl⟩ : ∃ m : Nat, u = m := ⟨u.toNat, by omega⟩
  obtain ⟨h1, h2⟩ := hI
  rw [zi_w_id (x := (m : Int) + 1) (by omega) (by omega), zl_ci u0 (by omega), zl_ci (a := (i : Int)) (by omega) (by omega)]
  refine zh_ite (fun e => k _ hu ⟨fun j hj => by rw [zv_up_n (by omega)]; exact h1 j hj, .inr ⟨zv_up_s, ?_⟩⟩) fun e => k _ hu ⟨h1, h2⟩
  rcases h2 with h2 | ⟨-, h2⟩
  · exact ⟨m, by omega, by rw [← h1 m (by omega), e, h2]⟩
  · exact h2
theorem yd_l0 (hn : n ≤ 8) {g0 g2 : Int → Int} : zh_ok (zf_Chooser_fewestNamed_l0 (n : Int) sh zi_fu 0 0 g0 g2) fun o => (∀ j : Nat, j < 24 → yd_Pt n sh o.2.1 j) ∧ zin o.1 ∧ (∀ b, zb o.1 b = true ↔ ∃ j : Nat, j < 24 ∧ zb (o.2.1 j) b = true) ∧ ∀ j : Nat, j < 24 → ∀ b, zb (o.2.2 j) b = true ↔ ∃ l : Nat, l ≤ j ∧ zb (o.2.1 l) b = true := by
  refine zh_loop (F := fun f i (a : Int × (Int → Int) × (Int → Int)) => zf_Chooser_fewestNamed_l0 (n : Int) sh f a.1 i a.2.1 a.2.2) (N := 24) (I := fun i a => (∀ j : Nat, (j : Int) < i → yd_Pt n sh a.2.1 j) ∧ zin a.1 ∧ (∀ b, zb a.1 b = true ↔ ∃ j : Nat, (j : Int) < i ∧ zb (a.2.1 j) b = true) ∧ ∀ j : Nat, (j : Int) < i → ∀ b, zb (a.2.2 j) b = true ↔ ∃ l : Nat, l ≤ j ∧ zb (a.2.1 l) b = true) (fun f i a i0 i1 hI k => ?_) 24 0 (0, g0, g2) zi_fu (by decide) (by decide) (by decide) (by decide) ⟨fun j hj => by omega, zin_0, fun b => by
    show zb 0 b = true ↔ _
    rw [zb_0]
    exact ⟨fun h => (by cases h), fun ⟨j, hj, _⟩ => by omega⟩, fun j hj => by omega⟩
  obtain ⟨x3, p, up⟩ := a
  obtain ⟨m, rfl⟩ : ∃ m : Nat, i = m := ⟨i.toNat, by omega⟩
  obtain ⟨h1, h2, h3, h4⟩ := hI
  have h1 : ∀ j : Nat, (j : Int) < (m : Int) → yd_Pt n sh p j := h1
  have h2 : zin x3 := h2
  have h3 : ∀ b, zb x3 b = true ↔ ∃ j : Nat, (j : Int) < (m : Int) ∧ zb (p j) b = true := h3
  have h4 : ∀ j : Nat, (j : Int) < (m : Int) → ∀ b, zb (up j) b = true ↔ ∃ l : Nat, l ≤ j ∧ zb (p l) b = true := h4
  show zh_ok (zf_Chooser_fewestNamed_l0_b (n : Int) sh (zf_Chooser_fewestNamed_l0 (n : Int) sh f) x3 m p up) _
  unfold zf_Chooser_fewestNamed_l0_b
  refine zh_ite (fun hi => ?_) fun hi => zh_ret ⟨fun j hj => h1 j (by omega), h2, fun b => ?_, fun j hj => h4 j (by omega)⟩
  · have hm : m < 24 := by omega
    refine zh_bind (yd_pairs hn hm) fun r3 hr => ?_
    rw [zl_ci i0 (by omega), zi_w_id (x := (m : Int) + 1) (by omega) (by omega)]
    refine zh_bind (yd_l1 (g := zv_up p (m : Int) r3) hm zv_up_s) fun q hq => ?_
    obtain ⟨q1, q2⟩ := hq
    have q1 : ∀ j : Nat, j ≠ m → q j = p j := fun j hj => by rw [q1 j hj, zv_up_n (by omega)]
    have hall : ∀ b, zb (zi_or x3 (q (m : Int))) b = true ↔ ∃ j : Nat, (j : Int) < (m : Int) + 1 ∧ zb (q j) b = true := fun b => by
      rw [zb_or, Bool.or_eq_true, h3]
      constructor
      · rintro (⟨j, j1, j2⟩ | e)
        · exact ⟨j, by omega, by rw [q1 j (by omega)]; exact j2⟩
        · exact ⟨m, by omega, e⟩
      · rintro ⟨j, j1, j2⟩
        by_cases e : j = m
        · subst e; exact .inr j2
        · exact .inl ⟨j, by omega, by rw [← q1 j e]; exact j2⟩
    refine k (_, _, _) hi ⟨fun j hj => ?_, zin_or, hall, fun j hj b => ?_⟩
    · show yd_Pt n sh q j
      by_cases e : j = m
      · subst e
        rcases q2 with q2 | ⟨q2, l, l1, l2⟩
        · exact ⟨by rw [q2]; exact z28_in hr.1, .inl (by rw [q2]; exact hr.2)⟩
        · rw [zv_up_n (by omega)] at l2
          refine ⟨by rw [q2]; exact zin_0, .inr ⟨q2, l, l1, ?_⟩⟩
          rw [q1 l (by omega), l2]; exact hr.2
      · obtain ⟨z1, z2⟩ := h1 j (by omega)
        refine ⟨by rw [q1 j e]; exact z1, ?_⟩
        rw [q1 j e]
        rcases z2 with z2 | ⟨z2, l, l1, l2⟩
        · exact .inl z2
        · exact .inr ⟨z2, l, l1, by rw [q1 l (by omega)]; exact l2⟩
    · show zb (zv_up up (m : Int) (zi_or x3 (q (m : Int))) j) b = true ↔ ∃ l : Nat, l ≤ j ∧ zb (q l) b = true
      by_cases e : j = m
      · subst e
        rw [zv_up_s, hall]
        constructor
        · rintro ⟨l, l1, l2⟩; exact ⟨l, by omega, l2⟩
        · rintro ⟨l, l1, l2⟩; exact ⟨l, by omega, l2⟩
      · rw [zv_up_n (by omega), h4 j (by omega)]
        constructor
        · rintro ⟨l, l1, l2⟩; exact ⟨l, l1, by rw [q1 l (by omega)]; exact l2⟩
        · rintro ⟨l, l1, l2⟩; exact ⟨l, l1, by rw [← q1 l (by omega)]; exact l2⟩
  · rw [h3]
    constructor
    · rintro ⟨j, j1, j2⟩; exact ⟨j, by omega, j2⟩
    · rintro ⟨j, j1, j2⟩; exact ⟨j, by omega, j2⟩
/-- what tells all apart with the fewest stars does so by parts that are kept -/
theorem yd_M_cv (hP : ∀ j : Nat, j < 24 → yd_Pt n sh g j) {all : Int} (ha : ∀ b, zb all b = true ↔ ∃ j : Nat, j < 24 ∧ zb (g j) b = true) {f : Int} (hM : yd_M n sh f) : yd_cv g f all := by
  obtain ⟨f1, f2, f3⟩ := hM
  intro b hb
  obtain ⟨j, j1, j2⟩ := (ha b).mp hb
  have hor : ∃ j : Nat, j < 24 ∧ yd_or n j sh b := by
    rcases (hP j j1).2 with w | ⟨w, -⟩
    · exact ⟨j, j1, (w b).mp j2⟩
    · rw [w, zb_0] at j2; cases j2
  obtain ⟨j, j1, p, q, qp, pn, eb, -⟩ := hor
  obtain ⟨i, i1, i2, i3⟩ := f2 p q qp pn
  have hi : yd_or n i sh b := ⟨p, q, qp, pn, eb, i3⟩
  rcases (hP i i1).2 with w | ⟨w, l, l1, l2⟩
  · exact ⟨i, i1, i2, (w b).mpr hi⟩
  · exfalso
    have hl : ∀ b, yd_or n l sh b ↔ yd_or n i sh b := fun b' => by
      rcases (hP l (by omega)).2 with w2 | ⟨w2, -⟩
      · rw [← w2, ← l2]
      · have := (l2 b).mpr hi
        rw [w2, zb_0] at this; cases this
    -- put l in the place of i
    obtain ⟨d, ed⟩ : ∃ d, d = zi_and f (zi_xor (zi_shl 1 (i : Int)) (-1)) := ⟨_, rfl⟩
    have zd : z24 d := by rw [ed]; exact z24_and f1
    have db : ∀ x : Nat, x < 24 → (zb d x = true ↔ zb f x = true ∧ x ≠ i) := fun x hx => by
      rw [ed, zb_clr (by omega) (by omega) hx, Bool.and_eq_true, Bool.not_eq_true', decide_eq_false_iff_not, Int.toNat_natCast]
    have cnt : yn_n (zb f) 24 = yn_n (zb d) 24 + 1 := by rw [ed]; exact yn_clr i1 i2
    have zc : z24 (zi_or d (zi_shl 1 (l : Int))) := z24_or zd (z24_shl (by omega) (by omega))
    have cb : ∀ x : Nat, zb (zi_or d (zi_shl 1 (l : Int))) x = true ↔ zb d x = true ∨ x = l := fun x => by
      rw [zb_or, Bool.or_eq_true, zb_shl (by omega) (by omega), decide_eq_true_iff, Int.toNat_natCast]
    have hcv : yd_Cv n sh (zi_or d (zi_shl 1 (l : Int))) := fun p' q' w1 w2 => by
      obtain ⟨x, x1, x2, x3⟩ := f2 p' q' w1 w2
      by_cases e : x = i
      · subst e
        obtain ⟨p2, q2, y1, y2, y3, y4⟩ := (hl (yd_tri p' + q')).mpr ⟨p', q', w1, w2, rfl, x3⟩
        obtain ⟨e1, e2⟩ := yd_tri_u w1 y1 y3
        subst e1; subst e2
        exact ⟨l, by omega, (cb l).mpr (.inr rfl), y4⟩
      · exact ⟨x, x1, (cb x).mpr (.inl ((db x x1).mpr ⟨x2, e⟩)), x3⟩
    have m := f3 _ zc hcv
    by_cases ld : zb d l = true
    · have e : zi_or d (zi_shl 1 (l : Int)) = d := z24_ext zc zd fun x hx => by
        rw [Bool.eq_iff_iff, cb]
        exact ⟨fun w => w.elim id fun w => by rw [w]; exact ld, fun w => .inl w⟩
      rw [e, cnt] at m
      generalize yn_n (zb d) 24 = a at m
      omega
    · have c2 : yn_n (zb (zi_or d (zi_shl 1 (l : Int)))) 24 = yn_n (zb d) 24 + 1 := yn_add (k := l) (Bool.eq_false_iff.mpr ld) ((cb l).mpr (.inr rfl)) 24 (by omega) fun x _ hx => by
        rw [Bool.eq_iff_iff, cb]
        exact ⟨fun w => .inl w, fun w => w.elim id fun w => absurd w hx⟩
      have le := m.2 (by rw [c2, cnt])
      have lt : (zi_or d (zi_shl 1 (l : Int))).toNat < f.toNat := yd_lt (i := i) (by
          rw [← zb_tb zc.1 (by have := zc.2; omega)]
          refine Bool.eq_false_iff.mpr fun w => ?_
          rcases (cb i).mp w with w | w
          · exact ((db i i1).mp w).2 rfl
          · omega) (by rw [← zb_tb f1.1 (by have := f1.2; omega)]; exact i2) fun x hx => by
        rw [← zb_tb zc.1 (by have := zc.2; omega), ← zb_tb f1.1 (by have := f1.2; omega), Bool.eq_iff_iff, cb]
        by_cases x24 : x < 24
        · rw [db x x24]
          exact ⟨fun w => w.elim (fun w => w.1) fun w => by omega, fun w => .inl ⟨w, by omega⟩⟩
        · rw [z24_b zd (by omega), z24_b f1 (by omega)]
          exact ⟨fun w => w.elim id fun w => by omega, fun w => (by cases w)⟩
      have := f1.1
      have := zc.1
      omega
theorem yd_fewest (hn : n ≤ 8) (hn2 : 2 ≤ n) {g0 g2 : Int → Int} : zh_ok (zf_Chooser_fewestNamed (n : Int) g0 sh g2) fun o => (o.1 = -1 ∧ ∀ f, yd_M n sh f → (n : Int) ≤ yn_n (zb f) 24) ∨ (o.1 ≠ -1 ∧ yd_M n sh o.1 ∧ yn_n (zb o.1) 24 < n) := by
  unfold zf_Chooser_fewestNamed
  rw [ze_Math_min, zl_b, if_neg (show ¬ (8 : Int) < (n : Int) by omega)]
  refine zh_bind (yd_l0 hn (sh := sh) (g0 := g0) (g2 := g2)) fun q hq => ?_
  obtain ⟨all, g, up⟩ := q
  obtain ⟨hP, hz, ha, hu⟩ := hq
  have hP : ∀ j : Nat, j < 24 → yd_Pt n sh g j := hP
  have hz : zin all := hz
  have ha : ∀ b, zb all b = true ↔ ∃ j : Nat, j < 24 ∧ zb (g j) b = true := ha
  have hu : ∀ j : Nat, j < 24 → ∀ b, zb (up j) b = true ↔ ∃ l : Nat, l ≤ j ∧ zb (g l) b = true := hu
  dsimp only
  have tri8 : yd_tri n ≤ 28 := yd_tri_le (b := 8) hn
  -- the pairs that some star tells apart
  have hor : ∀ b, zb all b = true ↔ ∃ j : Nat, j < 24 ∧ yd_or n j sh b := fun b => by
    rw [ha]
    constructor
    · rintro ⟨j, j1, j2⟩
      rcases (hP j j1).2 with w | ⟨w, -⟩
      · exact ⟨j, j1, (w b).mp j2⟩
      · rw [w, zb_0] at j2; cases j2
    · rintro ⟨j, j1, j2⟩
      rcases (hP j j1).2 with w | ⟨-, l, l1, l2⟩
      · exact ⟨j, j1, (w b).mpr j2⟩
      · exact ⟨l, by omega, (l2 b).mpr j2⟩
  have hb : ∀ b, zb all b = true → b < yd_tri n := fun b w => by
    obtain ⟨j, -, p, q, h1, h2, h3, -⟩ := (hor b).mp w
    have := yd_tri_le (show p + 1 ≤ n by omega)
    have e2 : yd_tri (p + 1) = yd_tri p + p := rfl
    omega
  have z28all : z28 all := z28_of hz fun b w => by have := hb b w; omega
  have cnt : zs_sum all 32 = yn_n (zb all) (yd_tri n) := by
    rw [yn_sum z28all.1 (by have := z28all.2; omega) 32, show 32 = yd_tri n + (32 - yd_tri n) by omega]
    exact yn_cut (fun j hj => Bool.eq_false_iff.mpr fun w => by have := hb j w; omega) _
  rw [ze_bitCount28 z28all.1 z28all.2, zl_b, cnt]
  have etri : zi_div (zi_w ((n : Int) * zi_w ((n : Int) - 1))) 2 = (yd_tri n : Int) := by
    have : ∀ n : Nat, n < 9 → zi_div (zi_w ((n : Int) * zi_w ((n : Int) - 1))) 2 = (yd_tri n : Int) := by decide +kernel
    exact this n (by omega)
  rw [etri]
  refine zh_ite (fun he => ?_) fun hne => zh_ret (.inl ⟨rfl, fun f hM => ?_⟩)
  · have full := yn_all _ he
    -- a cover by parts tells all apart
    have cvCv : ∀ c, yd_cv g c all → yd_Cv n sh c := fun c hc p q qp pn => by
      have lt : yd_tri p + q < yd_tri n := by
        have := yd_tri_le (show p + 1 ≤ n by omega)
        have e2 : yd_tri (p + 1) = yd_tri p + p := rfl
        omega
      obtain ⟨i, i1, i2, i3⟩ := hc _ (full _ lt)
      rcases (hP i i1).2 with w | ⟨w, -⟩
      · obtain ⟨p', q', y1, y2, y3, y4⟩ := (w _).mp i3
        obtain ⟨e1, e2⟩ := yd_tri_u qp y1 y3
        subst e1; subst e2
        exact ⟨i, i1, i2, y4⟩
      · rw [w, zb_0] at i3; cases i3
    have hne0 : ∀ c, yd_cv g c all → 1 ≤ yn_n (zb c) 24 := fun c hc => by
      have lt : 0 < yd_tri n := by
        have := yd_tri_le hn2
        have e2 : yd_tri 2 = 1 := rfl
        omega
      obtain ⟨i, i1, i2, -⟩ := hc 0 (full 0 lt)
      have l1 := yn_lt (f := fun _ => false) (g := zb c) (k := i) (by decide) i2 24 i1 fun j _ hj => (by cases hj)
      have l0 := (yn_in (f := fun _ => false) 24).1
      generalize yn_n (fun _ => false) 24 = a at l1 l0
      generalize yn_n (zb c) 24 = b at l1
      omega
    refine zh_sum (Q := fun o => match o with
      | .inl _ => ∀ c, z24 c → yn_n (zb c) 24 < (n : Int) → ¬ yd_cv g c all
      | .inr w => w.1 ≠ -1 ∧ z24 w.1 ∧ yn_n (zb w.1) 24 < (n : Int) ∧ yd_cv g w.1 all ∧ ∀ c, z24 c → yd_cv g c all → yn_n (zb w.1) 24 ≤ yn_n (zb c) 24 ∧ (yn_n (zb c) 24 = yn_n (zb w.1) 24 → w.1 ≤ c)) (zh_loop (F := fun f x5 (_ : Unit) => zf_Chooser_fewestNamed_l2 (n : Int) all g up f x5) (N := (n : Int)) (I := fun x5 _ => 1 ≤ x5 ∧ ∀ c, z24 c → yn_n (zb c) 24 < x5 → ¬ yd_cv g c all) (fun f x5 _ x0 x1 hI k => ?_) 8 1 () zi_fu (by omega) (by decide) (by omega) (by decide) ⟨by decide, fun c c1 c2 c3 => by have := hne0 c c3; omega⟩) (fun _ h => zh_ret (.inl ⟨rfl, fun f hM => ?_⟩)) fun w h => zh_ret (.inr ⟨h.1, ?_, h.2.2.1⟩)
    · show zh_ok (zf_Chooser_fewestNamed_l2_b (n : Int) all g up (zf_Chooser_fewestNamed_l2 (n : Int) all g up f) x5) _
      unfold zf_Chooser_fewestNamed_l2_b
      refine zh_ite (fun hi => ?_) fun hi => zh_ret fun c c1 c2 => hI.2 c c1 (by omega)
      rw [zi_w_id (x := x5 + 1) (by omega) (by omega)]
      have c24 : ∀ c, z24 c → ∀ j : Nat, zb c j = true → (j : Int) < 24 := fun c c1 j hj => by
        by_cases q : j < 24
        · omega
        · rw [z24_b c1 (by omega)] at hj; cases hj
      unfold zf_Chooser_leastCover
      refine zh_bind (yd_cover hu _ 0 x5 24 all (by omega) (by omega) (by omega) (by decide) (by decide) z28all fun c c1 _ c3 => hI.2 c c1 c3) fun r hr => ?_
      rcases hr with ⟨r1, r2⟩ | ⟨r1, r2, -, r4, r5, r6⟩
      · rw [if_pos r1]
        refine k () hi ⟨by omega, fun c c1 c2 => ?_⟩
        by_cases q : yn_n (zb c) 24 < x5
        · exact hI.2 c c1 q
        · exact r2 c c1 (c24 c c1) (by omega)
      · rw [if_neg r1]
        refine zh_ret ⟨r1, r2, by show yn_n (zb r) 24 < n; omega, r5, fun c c1 c2 => ⟨?_, fun c3 => r6 c c1 (c24 c c1) (by have c3 : yn_n (zb c) 24 = yn_n (zb r) 24 := c3; omega) c2⟩⟩
        show yn_n (zb r) 24 ≤ yn_n (zb c) 24
        by_cases q : yn_n (zb c) 24 < x5
        · exact absurd c2 (hI.2 c c1 q)
        · omega
    · by_cases q : yn_n (zb f) 24 < (n : Int)
      · exact absurd (yd_M_cv hP ha hM) (h f hM.1 q)
      · omega
    · obtain ⟨-, h2, h3, h4, h5⟩ := h
      obtain ⟨f, hM⟩ := yd_M_ex _ w.1 h2 (cvCv _ h4) (Nat.le_refl _)
      have a := h5 f hM.1 (yd_M_cv hP ha hM)
      have b := hM.2.2 w.1 h2 (cvCv _ h4)
      have e : yn_n (zb f) 24 = yn_n (zb w.1) 24 := Int.le_antisymm b.1 a.1
      have e2 : w.1 = f := Int.le_antisymm (a.2 e) (b.2 e.symm)
      show yd_M n sh w.1
      rw [e2]; exact hM
  · exfalso
    have ex : ∃ b, b < yd_tri n ∧ ¬ zb all b = true := by
      by_cases q : ∃ b, b < yd_tri n ∧ ¬ zb all b = true
      · exact q
      · refine absurd (yn_full _ fun j hj => ?_) hne
        by_cases w : zb all j = true
        · exact w
        · exact absurd ⟨j, hj, w⟩ q
    obtain ⟨b, b1, b2⟩ := ex
    obtain ⟨p, q, qp, pn, eb⟩ := yd_ix b1
    obtain ⟨i, i1, -, i3⟩ := hM.2.1 p q qp pn
    exact b2 ((hor b).mpr ⟨i, i1, p, q, qp, pn, eb, i3⟩)
end YDF
end
section
/-! named: alike. -/
section YNM
variable {L : zLW} {K V kd fr hf to C mk mf mh mt T M : Int → Int} {nc tS tL sP lP mc : Int} {t h u cl sc sr ch ts n : Int} {co ro br wc wr m gp gl : Int → Int}
/-- what is seen from the told places -/
def yd_sh (L : zLW) (tS t h u cl sc sr : Int) (co ro br T : Int → Int) (a : Nat) (sh : Int → Int) : Prop := ∀ k : Nat, k < a → ¬ zs_pl (T (2 * (k : Int))) (T (2 * (k : Int) + 1)) = 0 ∧ yv_is L tS t h u cl sc sr co ro br (T (2 * (k : Int))) (T (2 * (k : Int) + 1)) (sh k)
theorem yd_namedX (R : yl_R L K V nc tS tL sP lP kd fr hf to mc C mk mf mh mt) (k : yk_sky t h u cl sc sr ch co ro br wc wr m) {a : Nat} (a2 : 2 ≤ a) (a8 : a ≤ 8) {f4 f5 f6 f9 f15 f17 : Int} {g0 g2 g10 g12 g13 g14 : Int → Int} (h0 : yv_cp L lP h u co ro br g0 g13 ∨ True) :
    zh_ok (zf_X_named_l0 (a : Int) 0 h u t sc sr cl tS nc sP g0 T co ro br kd hf to K V g13 g14 zi_fu 0 0 f5 f6 f9 f15 f17 g2 g10 g12) fun o => match o with
      | .inl b => ∃ sh, (∀ k : Nat, k < a → b.2.2.2.2.2.2.2.2 k = sh k) ∧ yd_sh L tS t h u cl sc sr co ro br T a sh
      | .inr b => b.1 = -2 ∧ ∃ k : Nat, k < a ∧ zs_pl (T (2 * (k : Int))) (T (2 * (k : Int) + 1)) = 0 := by
  refine zh_loop (F := fun n i (b : Int × Int × Int × Int × Int × Int × (Int → Int) × (Int → Int) × (Int → Int)) => zf_X_named_l0 (a : Int) 0 h u t sc sr cl tS nc sP g0 T co ro br kd hf to K V g13 g14 n i b.1 b.2.1 b.2.2.1 b.2.2.2.1 b.2.2.2.2.1 b.2.2.2.2.2.1 b.2.2.2.2.2.2.1 b.2.2.2.2.2.2.2.1 b.2.2.2.2.2.2.2.2) (N := (a : Int))
    (I := fun i b => yv_ca L sP h u co ro br b.1 b.2.2.2.2.1 ∧ ∀ k : Nat, (k : Int) < i → ¬ zs_pl (T (2 * (k : Int))) (T (2 * (k : Int) + 1)) = 0 ∧ yv_is L tS t h u cl sc sr co ro br (T (2 * (k : Int))) (T (2 * (k : Int) + 1)) (b.2.2.2.2.2.2.2.2 k)) (fun n i b i0 i1 hb kk => ?_) 8 0 (0, f5, f6, f9, f15, f17, g2, g10, g12) zi_fu (by omega) (by decide) (by omega) (by decide) ⟨yv_ca0, fun k hk => by omega⟩
  obtain ⟨b1, b2, b3, b4, b5, b6, b7, b8, b9⟩ := b
  obtain ⟨hb, hsh⟩ := hb
  have hb : yv_ca L sP h u co ro br b1 b5 := hb
  have hsh : ∀ k : Nat, (k : Int) < i → ¬ zs_pl (T (2 * (k : Int))) (T (2 * (k : Int) + 1)) = 0 ∧ yv_is L tS t h u cl sc sr co ro br (T (2 * (k : Int))) (T (2 * (k : Int) + 1)) (b9 k) := hsh
  show zh_ok (zf_X_named_l0_b (a : Int) 0 h u t sc sr cl tS nc sP g0 T co ro br kd hf to K V g13 g14 (zf_X_named_l0 (a : Int) 0 h u t sc sr cl tS nc sP g0 T co ro br kd hf to K V g13 g14 n) i b1 b2 b3 b4 b5 b6 b7 b8 b9) _
  unfold zf_X_named_l0_b
  obtain ⟨v, rfl⟩ : ∃ v : Nat, i = v := ⟨i.toNat, by omega⟩
  refine zh_ite (fun hi => ?_) fun hi => zh_ret ⟨b9, fun _ _ => rfl, fun k hk => hsh k (by omega)⟩
  rw [zi_w_id (x := 2 * (v : Int)) (by omega) (by omega), zi_w_id (x := 2 * (v : Int) + 1) (by omega) (by omega), zi_w_id (x := (v : Int) + 1) (by omega) (by omega), ze_byteAt (by omega) (by omega), zl_b, ze_byteAt (by omega) (by omega), zl_b, ze_X_isPlace, zl_b]
  refine zh_ite (fun q3 => zh_ret ⟨rfl, v, by omega, q3⟩) fun q3 => ?_
  obtain ⟨x1, x2, y1, y2⟩ := zs_pl_ne q3
  obtain ⟨s', as', ho', a', g', S', e1, i1', c1⟩ := yx_look (f2 := b2) (f3 := b3) (f6 := b4) (f := b6) (g := b7) (S := b8) (x := T (2 * (v : Int))) (y := T (2 * (v : Int) + 1)) R k x1 (by omega) y1 (by omega) hb
  rw [e1, zl_b]
  dsimp only
  rw [zl_ci i0 (by omega)]
  refine kk (_, _, _, _, _, _, _, _, _) hi ⟨c1, fun j hj => ?_⟩
  show ¬ zs_pl (T (2 * (j : Int))) (T (2 * (j : Int) + 1)) = 0 ∧ yv_is L tS t h u cl sc sr co ro br (T (2 * (j : Int))) (T (2 * (j : Int) + 1)) (zv_up b9 (v : Int) s' j)
  by_cases e : j = v
  · subst e; rw [zv_up_s]; exact ⟨q3, i1'⟩
  · rw [zv_up_n (by omega)]; exact hsh j (by omega)
theorem yd_places {a : Nat} (a8 : a ≤ 8) {g : Int → Int} (hT : yk_T T M) : zh_ok (zf_M_takesPlaces (a : Int) M g) fun o => (o.1 = 1 ∧ (∀ k : Nat, k < a → ¬ zs_pl (T (2 * (k : Int))) (T (2 * (k : Int) + 1)) = 0 ∧ o.2 k = 24 * T (2 * (k : Int) + 1) + T (2 * (k : Int)))) ∨ (o.1 = 0 ∧ ((∃ k : Nat, k < a ∧ zs_pl (T (2 * (k : Int))) (T (2 * (k : Int) + 1)) = 0) ∨ ∃ k q : Nat, q < k ∧ k < a ∧ T (2 * (k : Int)) = T (2 * (q : Int)) ∧ T (2 * (k : Int) + 1) = T (2 * (q : Int) + 1))) := by
  unfold zf_M_takesPlaces
  refine zh_sum (Q := fun q => match q with
    | .inl g => ∀ k : Nat, k < a → ¬ zs_pl (T (2 * (k : Int))) (T (2 * (k : Int) + 1)) = 0 ∧ g k = 24 * T (2 * (k : Int) + 1) + T (2 * (k : Int))
    | .inr o => o.1 = 0 ∧ ((∃ k : Nat, k < a ∧ zs_pl (T (2 * (k : Int))) (T (2 * (k : Int) + 1)) = 0) ∨ ∃ k q : Nat, q < k ∧ k < a ∧ T (2 * (k : Int)) = T (2 * (q : Int)) ∧ T (2 * (k : Int) + 1) = T (2 * (q : Int) + 1))) (zh_loop (F := fun f i (b : Int → Int) => zf_M_takesPlaces_l0 (a : Int) M f i b) (N := (a : Int)) (I := fun i b => ∀ k : Nat, (k : Int) < i → ¬ zs_pl (T (2 * (k : Int))) (T (2 * (k : Int) + 1)) = 0 ∧ b k = 24 * T (2 * (k : Int) + 1) + T (2 * (k : Int))) (fun f i b i0 i1 ha kk => ?_) 8 0 g zi_fu (by omega) (by decide) (by omega) (by decide) fun k hk => by omega) (fun g hg => zh_ret (.inl ⟨rfl, hg⟩)) fun o ho => zh_ret (.inr ho)
  show zh_ok (zf_M_takesPlaces_l0_b (a : Int) M (zf_M_takesPlaces_l0 (a : Int) M f) i b) _
  unfold zf_M_takesPlaces_l0_b
  obtain ⟨v, rfl⟩ : ∃ v : Nat, i = v := ⟨i.toNat, by omega⟩
  refine zh_ite (fun hi => ?_) fun hi => zh_ret fun k hk => ha k (by omega)
  obtain ⟨T1, -, -⟩ := hT (2 * (v : Int)) (by omega) (by omega)
  obtain ⟨T2, -, -⟩ := hT (2 * (v : Int) + 1) (by omega) (by omega)
  rw [zi_w_id (x := 2 * (v : Int)) (by omega) (by omega), zi_w_id (x := 2 * (v : Int) + 1) (by omega) (by omega), zi_w_id (x := (v : Int) + 1) (by omega) (by omega), T1, T2, ze_M_isPlace, zl_b, zl_ci (a := 2 * (v : Int)) (by omega) (by omega), zl_ci (a := 2 * (v : Int) + 1) (by omega) (by omega)]
  refine zh_ite (fun q => zh_ret ⟨rfl, .inl ⟨v, by omega, q⟩⟩) fun q3 => ?_
  obtain ⟨x1, x2, y1, y2⟩ := zs_pl_ne q3
  rw [zi_w_id (x := 24 * T (2 * (v : Int) + 1)) (by omega) (by omega), zi_w_id (x := 24 * T (2 * (v : Int) + 1) + T (2 * (v : Int))) (by omega) (by omega), zl_ci i0 (by omega)]
  refine zh_sum (Q := fun q => match q with
    | .inl _ => True
    | .inr o => o.1 = 0 ∧ ((∃ k : Nat, k < a ∧ zs_pl (T (2 * (k : Int))) (T (2 * (k : Int) + 1)) = 0) ∨ ∃ k q : Nat, q < k ∧ k < a ∧ T (2 * (k : Int)) = T (2 * (q : Int)) ∧ T (2 * (k : Int) + 1) = T (2 * (q : Int) + 1))) (zh_loop (F := fun f j (_ : Unit) => zf_M_takesPlaces_l1 (v : Int) (zv_up b (v : Int) (24 * T (2 * (v : Int) + 1) + T (2 * (v : Int)))) f j) (N := (v : Int)) (I := fun _ _ => True) (fun f j _ j0 j1 _ k2 => ?_) 8 0 () zi_fu (by omega) (by decide) i0 (by decide) trivial) (fun _ _ => kk _ hi fun j hj => ?_) fun o ho => zh_ret ho
  · show zh_ok (zf_M_takesPlaces_l1_b (v : Int) (zv_up b (v : Int) (24 * T (2 * (v : Int) + 1) + T (2 * (v : Int)))) (zf_M_takesPlaces_l1 (v : Int) (zv_up b (v : Int) (24 * T (2 * (v : Int) + 1) + T (2 * (v : Int)))) f) j) _
    unfold zf_M_takesPlaces_l1_b
    obtain ⟨w, rfl⟩ : ∃ w : Nat, j = w := ⟨j.toNat, by omega⟩
    refine zh_ite (fun hj => ?_) fun _ => zh_ret trivial
    rw [zi_w_id (x := (w : Int) + 1) (by omega) (by omega), zl_ci j0 (by omega), zl_ci (a := (v : Int)) i0 (by omega), zv_up_n (show (w : Int) ≠ (v : Int) by omega), zv_up_s]
    obtain ⟨w1, w2⟩ := ha w (by omega)
    obtain ⟨z1, z2, z3, z4⟩ := zs_pl_ne w1
    refine zh_ite (fun e => zh_ret ⟨rfl, .inr ⟨v, w, by omega, by omega, ?_⟩⟩) fun _ => k2 () hj trivial
    rw [w2] at e
    constructor <;> omega
  · show ¬ zs_pl (T (2 * (j : Int))) (T (2 * (j : Int) + 1)) = 0 ∧ zv_up b (v : Int) (24 * T (2 * (v : Int) + 1) + T (2 * (v : Int))) j = 24 * T (2 * (j : Int) + 1) + T (2 * (j : Int))
    by_cases e : j = v
    · subst e; rw [zv_up_s]; exact ⟨q3, rfl⟩
    · rw [zv_up_n (by omega)]; exact ha j (by omega)
/-- the pairs of what is seen, one by one -/
def yd_un (a : Nat) (sh un : Int → Int) (f : Int) : Prop := (∀ j, 0 ≤ j → j < f → ∃ p q : Nat, q < p ∧ p < a ∧ un j = zi_xor (sh q) (sh p)) ∧ ∀ p q : Nat, q < p → p < a → ∃ j, 0 ≤ j ∧ j < f ∧ un j = zi_xor (sh q) (sh p)
theorem yd_lays (R : yl_R L K V nc tS tL sP lP kd fr hf to mc C mk mf mh mt) (k : yk_sky t h u cl sc sr ch co ro br wc wr m) {a : Nat} (a8 : a ≤ 8) {sh at' g2 g5 g9 : Int → Int} (hs : yd_sh L tS t h u cl sc sr co ro br T a sh) (ha : ∀ k : Nat, k < a → at' k = 24 * T (2 * (k : Int) + 1) + T (2 * (k : Int))) :
    zh_ok (zf_M_named_l0 (a : Int) 0 mc at' m mk mh mt C zi_fu 0 0 g2 g5 g9) fun o => match o with
      | .inl b => 0 ≤ b.1 ∧ b.1 ≤ 28 ∧ yd_un a sh b.2.1 b.1
      | .inr b => b.1 = -2 ∧ ∃ p q : Nat, q < p ∧ p < a ∧ sh p = sh q := by
  have see : ∀ k : Nat, k < a → ∀ g S : Int → Int, ∃ g' S', zf_M_seenFrom (at' k) mc m mk g mh mt C S = some (sh k, g', S') := fun j hj g S => by
    obtain ⟨w1, w2⟩ := hs j hj
    obtain ⟨x1, x2, y1, y2⟩ := zs_pl_ne w1
    obtain ⟨s', g', S', e1, e2⟩ := ym_seen (p := at' j) (g := g) (S := S) R k (by rw [ha j hj]; omega) (by rw [ha j hj]; omega)
    rw [ha j hj, show (24 * T (2 * (j : Int) + 1) + T (2 * (j : Int))) % 24 = T (2 * (j : Int)) by omega, show (24 * T (2 * (j : Int) + 1) + T (2 * (j : Int))) / 24 = T (2 * (j : Int) + 1) by omega] at e2
    rw [yv_is_eq e2 w2] at e1
    exact ⟨g', S', e1⟩
  have z24s : ∀ k : Nat, k < a → z24 (sh k) := fun j hj => (hs j hj).2.1
  refine zh_loop (F := fun f i (b : Int × (Int → Int) × (Int → Int) × (Int → Int)) => zf_M_named_l0 (a : Int) 0 mc at' m mk mh mt C f i b.1 b.2.1 b.2.2.1 b.2.2.2) (N := (a : Int)) (I := fun i b => (0 ≤ b.1 ∧ 2 * b.1 ≤ i * (15 - i)) ∧ (∀ j, 0 ≤ j → j < b.1 → ∃ p q : Nat, q < p ∧ p < a ∧ b.2.1 j = zi_xor (sh q) (sh p)) ∧ ∀ p q : Nat, q < p → p < a → (q : Int) < i → ∃ j, 0 ≤ j ∧ j < b.1 ∧ b.2.1 j = zi_xor (sh q) (sh p)) (fun f i b i0 i1 hb kk => ?_) 8 0 (0, g2, g5, g9) zi_fu (by omega) (by decide) (by omega) (by decide) ⟨⟨Int.le_refl 0, Int.le_refl 0⟩, fun j j0 j1 => by have j1 : j < 0 := j1; omega, fun p q _ _ hq => by omega⟩
  obtain ⟨b1, b2, b3, b4⟩ := b
  obtain ⟨⟨hb0, hb⟩, hA, hB⟩ := hb
  have hb0 : 0 ≤ b1 := hb0
  have hb : 2 * b1 ≤ i * (15 - i) := hb
  have hA : ∀ j, 0 ≤ j → j < b1 → ∃ p q : Nat, q < p ∧ p < a ∧ b2 j = zi_xor (sh q) (sh p) := hA
  have hB : ∀ p q : Nat, q < p → p < a → (q : Int) < i → ∃ j, 0 ≤ j ∧ j < b1 ∧ b2 j = zi_xor (sh q) (sh p) := hB
  show zh_ok (zf_M_named_l0_b (a : Int) 0 mc at' m mk mh mt C (zf_M_named_l0 (a : Int) 0 mc at' m mk mh mt C f) i b1 b2 b3 b4) _
  unfold zf_M_named_l0_b
  have hcs : i = 0 ∨ i = 1 ∨ i = 2 ∨ i = 3 ∨ i = 4 ∨ i = 5 ∨ i = 6 ∨ i = 7 ∨ i = 8 := by omega
  refine zh_ite (fun hi => ?_) fun hi => zh_ret ⟨hb0, ?_, hA, fun p q qp pa => hB p q qp pa (by omega)⟩
  rotate_left
  · show b1 ≤ 28
    rcases hcs with e | e | e | e | e | e | e | e | e <;> subst e <;> omega
  obtain ⟨c2, hc2⟩ : ∃ c, c = i * (15 - i) := ⟨_, rfl⟩
  have hc3 : c2 + 2 * (7 - i) ≤ 56 := by
    rcases hcs with e | e | e | e | e | e | e | e | e <;> subst e <;> omega
  have hc4 : (i + 1) * (15 - (i + 1)) = c2 + 14 - 2 * i := by
    rcases hcs with e | e | e | e | e | e | e | e | e <;> subst e <;> omega
  rw [← hc2] at hb
  obtain ⟨v, rfl⟩ : ∃ v : Nat, i = v := ⟨i.toNat, by omega⟩
  rw [zi_w_id (x := (v : Int) + 1) (by omega) (by omega)]
  refine zh_sum (Q := fun o => match o with
    | .inl b => (0 ≤ b.1 ∧ 2 * b.1 ≤ c2 + 14 - 2 * (v : Int)) ∧ (∀ j, 0 ≤ j → j < b.1 → ∃ p q : Nat, q < p ∧ p < a ∧ b.2.1 j = zi_xor (sh q) (sh p)) ∧ ∀ p q : Nat, q < p → p < a → (q : Int) < (v : Int) + 1 → ∃ j, 0 ≤ j ∧ j < b.1 ∧ b.2.1 j = zi_xor (sh q) (sh p)
    | .inr b => b.1 = -2 ∧ ∃ p q : Nat, q < p ∧ p < a ∧ sh p = sh q) (zh_loop (F := fun f j (b : Int × (Int → Int) × (Int → Int) × (Int → Int)) => zf_M_named_l1 (a : Int) (v : Int) 0 mc at' m mk mh mt C f j b.1 b.2.1 b.2.2.1 b.2.2.2) (N := (a : Int)) (I := fun j b => (v < j ∧ 0 ≤ b.1 ∧ 2 * b.1 ≤ c2 + 2 * (j - v - 1)) ∧ (∀ j, 0 ≤ j → j < b.1 → ∃ p q : Nat, q < p ∧ p < a ∧ b.2.1 j = zi_xor (sh q) (sh p)) ∧ ∀ p q : Nat, q < p → p < a → ((q : Int) < (v : Int) ∨ (q = v ∧ (p : Int) < j)) → ∃ j, 0 ≤ j ∧ j < b.1 ∧ b.2.1 j = zi_xor (sh q) (sh p)) (fun f j b j0 j1 hb kk2 => ?_) 8 ((v : Int) + 1) (b1, b2, b3, b4) zi_fu (by omega) (by omega) (by omega) (by decide) ⟨⟨by omega, hb0, by show 2 * b1 ≤ c2 + 2 * ((v : Int) + 1 - v - 1); omega⟩, hA, fun p q qp pa hq => hB p q qp pa (by omega)⟩) (fun b hb => kk (b.1, b.2.1, b.2.2.1, b.2.2.2) hi ⟨⟨hb.1.1, by show 2 * b.1 ≤ ((v : Int) + 1) * (15 - ((v : Int) + 1)); rw [hc4]; exact hb.1.2⟩, hb.2.1, hb.2.2⟩) fun b hb => zh_ret hb
  obtain ⟨d1, d2, d3, d4⟩ := b
  obtain ⟨⟨hd, hd0, hd1⟩, hA, hB⟩ := hb
  have hd0 : 0 ≤ d1 := hd0
  have hd1 : 2 * d1 ≤ c2 + 2 * (j - v - 1) := hd1
  have hA : ∀ j, 0 ≤ j → j < d1 → ∃ p q : Nat, q < p ∧ p < a ∧ d2 j = zi_xor (sh q) (sh p) := hA
  have hB : ∀ p q : Nat, q < p → p < a → ((q : Int) < (v : Int) ∨ (q = v ∧ (p : Int) < j)) → ∃ j, 0 ≤ j ∧ j < d1 ∧ d2 j = zi_xor (sh q) (sh p) := hB
  show zh_ok (zf_M_named_l1_b (a : Int) (v : Int) 0 mc at' m mk mh mt C (zf_M_named_l1 (a : Int) (v : Int) 0 mc at' m mk mh mt C f) j d1 d2 d3 d4) _
  unfold zf_M_named_l1_b
  refine zh_ite (fun hj => ?_) fun hj => zh_ret ⟨⟨hd0, by show 2 * d1 ≤ c2 + 14 - 2 * (v : Int); omega⟩, hA, fun p q qp pa hq => hB p q qp pa (by omega)⟩
  obtain ⟨w, rfl⟩ : ∃ w : Nat, j = w := ⟨j.toNat, by omega⟩
  obtain ⟨g', S', e1⟩ := see v (by omega) d3 d4
  obtain ⟨g3, S3, e2⟩ := see w (by omega) g' S'
  rw [zl_ci i0 (by omega), e1, zl_b]
  dsimp only
  rw [zl_ci (a := (w : Int)) (by omega) (by omega), e2, zl_b, zi_w_id (x := (w : Int) + 1) (by omega) (by omega), zi_w_id (x := d1 + 1) (by omega) (by omega), zl_ci hd0 (by omega), zv_up_s]
  refine zh_ite (fun hz => zh_ret ⟨rfl, w, v, by omega, by omega, ?_⟩) fun _ => kk2 (_, _, _, _) hj ⟨⟨by omega, by show 0 ≤ d1 + 1; omega, by show 2 * (d1 + 1) ≤ c2 + 2 * ((w : Int) + 1 - v - 1); omega⟩, fun j j0 j1 => ?_, fun p q qp pa hq => ?_⟩
  · refine z24_ext (z24s w (by omega)) (z24s v (by omega)) fun x hx => ?_
    have hz : zi_xor (sh v) (sh w) = 0 := hz
    have : zb (zi_xor (sh v) (sh w)) x = false := by rw [hz]; exact zb_0
    rw [zb_xor] at this
    cases p : zb (sh v) x <;> cases q : zb (sh w) x <;> rw [p, q] at this <;> first | rfl | exact absurd this (by decide)
  · show ∃ p q : Nat, q < p ∧ p < a ∧ zv_up d2 d1 (zi_xor (sh v) (sh w)) j = zi_xor (sh q) (sh p)
    have j1 : j < d1 + 1 := j1
    by_cases e : j = d1
    · subst e; rw [zv_up_s]; exact ⟨w, v, by omega, by omega, rfl⟩
    · rw [zv_up_n e]; exact hA j j0 (by omega)
  · show ∃ j, 0 ≤ j ∧ j < d1 + 1 ∧ zv_up d2 d1 (zi_xor (sh v) (sh w)) j = zi_xor (sh q) (sh p)
    by_cases e : q = v ∧ p = w
    · obtain ⟨e1, e2⟩ := e
      subst e1; subst e2
      exact ⟨d1, hd0, by omega, zv_up_s⟩
    · obtain ⟨j, j0, j1, j2⟩ := hB p q qp pa (by omega)
      exact ⟨j, j0, by omega, by rw [zv_up_n (by omega)]; exact j2⟩
/-- a set tells all apart -/
theorem yd_apart {a : Nat} {sh un : Int → Int} {f c : Int} (f0 : 0 ≤ f) (f1 : f ≤ 28) (hu : yd_un a sh un f) (hc : z24 c) : (zf_M_tellsApart c f un = some 1 ∧ yd_Cv a sh c) ∨ (zf_M_tellsApart c f un = some 0 ∧ ¬ yd_Cv a sh c) := by
  have bits : ∀ p q : Nat, (zi_and (zi_xor (sh q) (sh p)) c = 0 ↔ ¬ ∃ i : Nat, i < 24 ∧ zb c i = true ∧ zb (sh p) i ≠ zb (sh q) i) := fun p q => by
    rw [zin_and0]
    constructor
    · rintro h ⟨i, i1, i2, i3⟩
      refine h i ⟨?_, i2⟩
      rw [zb_xor]
      cases x : zb (sh p) i <;> cases y : zb (sh q) i <;> rw [x, y] at i3 <;> first | rfl | exact absurd rfl i3
    · intro h i w
      refine h ⟨i, ?_, w.2, fun e => ?_⟩
      · by_cases q : i < 24
        · exact q
        · have := w.2
          rw [z24_b hc (by omega)] at this; cases this
      · have := w.1
        rw [zb_xor, e, Bool.xor_self] at this; cases this
  have main : zh_ok (zf_M_tellsApart c f un) fun r => (r = 1 ∧ yd_Cv a sh c) ∨ (r = 0 ∧ ¬ yd_Cv a sh c) := by
    unfold zf_M_tellsApart
    refine zh_sum (Q := fun q => match q with
      | .inl _ => yd_Cv a sh c
      | .inr r => r = 0 ∧ ¬ yd_Cv a sh c) (zh_loop (F := fun n i (_ : Unit) => zf_M_tellsApart_l0 c f un n i) (N := f) (I := fun i _ => ∀ j, 0 ≤ j → j < i → zi_and (un j) c ≠ 0) (fun n i _ i0 i1 hI kk => ?_) 28 0 () zi_fu (by omega) (by decide) f0 (by decide) fun j j0 j1 => by omega) (fun _ h => zh_ret (.inl ⟨rfl, h⟩)) fun r h => zh_ret (.inr h)
    show zh_ok (zf_M_tellsApart_l0_b c f un (zf_M_tellsApart_l0 c f un n) i) _
    unfold zf_M_tellsApart_l0_b
    refine zh_ite (fun hi => ?_) fun hi => zh_ret fun p q qp pa => ?_
    · rw [zi_w_id (x := i + 1) (by omega) (by omega), zl_ci i0 (by omega)]
      refine zh_ite (fun e => zh_ret ⟨rfl, fun w => ?_⟩) fun e => kk () hi fun j j0 j1 => ?_
      · obtain ⟨p, q, qp, pa, e2⟩ := hu.1 i i0 hi
        rw [e2] at e
        exact (bits p q).mp e (w p q qp pa)
      · by_cases ej : j = i
        · subst ej; exact e
        · exact hI j j0 (by omega)
    · obtain ⟨j, j0, j1, j2⟩ := hu.2 p q qp pa
      have h := hI j j0 (by omega)
      rw [j2] at h
      by_cases w : ∃ i : Nat, i < 24 ∧ zb c i = true ∧ zb (sh p) i ≠ zb (sh q) i
      · exact w
      · exact absurd ((bits p q).mpr w) h
  obtain ⟨r, e, h⟩ := main
  rcases h with ⟨h1, h2⟩ | ⟨h1, h2⟩
  · exact .inl ⟨by rw [e, h1], h2⟩
  · exact .inr ⟨by rw [e, h1], h2⟩
theorem yd_leastOf (k : yk_sky t h u cl sc sr ch co ro br wc wr m) {a : Nat} {sh un : Int → Int} {f : Int} (f0 : 0 ≤ f) (f1 : f ≤ 28) (hu : yd_un a sh un f) {q : Nat} (q1 : 1 ≤ q) (q2 : q ≤ 7) :
    zh_ok (zf_M_leastOf (q : Int) f m un) fun r => (r = -1 ∧ ∀ c, z24 c → yn_n (zb c) 24 = (q : Int) → (∀ j, zb c j = true → zb t j = true) → ¬ yd_Cv a sh c) ∨ (r ≠ -1 ∧ z24 r ∧ yn_n (zb r) 24 = (q : Int) ∧ yd_Cv a sh r ∧ ∀ c, z24 c → yn_n (zb c) 24 = (q : Int) → (∀ j, zb c j = true → zb t j = true) → yd_Cv a sh c → r ≤ c) := by
  unfold zf_M_leastOf
  have ht : m 126 = t := k.1.2
  have hst : zi_w (zi_shl 1 (q : Int) - 1) = ((2 ^ q - 1 : Nat) : Int) := by
    have : ∀ q : Nat, q < 8 → zi_w (zi_shl 1 (q : Int) - 1) = ((2 ^ q - 1 : Nat) : Int) := by decide +kernel
    exact this q (by omega)
  have hsb : 1 ≤ 2 ^ q - 1 ∧ 2 ^ q - 1 ≤ 127 := by
    have : ∀ q : Nat, q < 8 → 1 ≤ q → 1 ≤ 2 ^ q - 1 ∧ 2 ^ q - 1 ≤ 127 := by decide
    exact this q (by omega) (by omega)
  refine zh_sum (Q := fun o => match o with
    | .inl _ => ∀ c, z24 c → yn_n (zb c) 24 = (q : Int) → (∀ j, zb c j = true → zb t j = true) → ¬ yd_Cv a sh c
    | .inr r => r ≠ -1 ∧ z24 r ∧ yn_n (zb r) 24 = (q : Int) ∧ yd_Cv a sh r ∧ ∀ c, z24 c → yn_n (zb c) 24 = (q : Int) → (∀ j, zb c j = true → zb t j = true) → yd_Cv a sh c → r ≤ c) (zh_loop2 (F := fun n (x : Int) => zf_M_leastOf_l0 f m un n x) (μ := fun x => (16777216 - x).toNat) (I := fun x => 0 < x ∧ (x < 16777216 → yn_n (zb x) 24 = (q : Int)) ∧ ∀ c, z24 c → yn_n (zb c) 24 = (q : Int) → c < x → (∀ j, zb c j = true → zb t j = true) → ¬ yd_Cv a sh c) (fun n x hx kk => ?_) 16777216 (zi_w (zi_shl 1 (q : Int) - 1)) zi_fu (by rw [hst]; omega) (by decide) ⟨by rw [hst]; omega, fun _ => ?_, fun c c1 c2 c3 => ?_⟩) (fun _ h => zh_ret (.inl ⟨rfl, h⟩)) fun r h => zh_ret (.inr h)
  · obtain ⟨x0, xn, xc⟩ := hx
    show zh_ok (zf_M_leastOf_l0_b f m un (zf_M_leastOf_l0 f m un n) x) _
    unfold zf_M_leastOf_l0_b
    refine zh_ite (fun hi => ?_) fun hi => zh_ret fun c c1 c2 => xc c c1 c2 (by have := c1.2; omega)
    have zx : z24 x := ⟨by omega, by omega⟩
    have nxt : ((∀ j, zb x j = true → zb t j = true) → ¬ yd_Cv a sh x) → ∀ v, x < v → v < 67108864 → (∀ t : Int, x < t → t < v → t < 16777216 → yn_n (zb t) 24 ≠ yn_n (zb x) 24) → (v < 16777216 → yn_n (zb v) 24 = yn_n (zb x) 24) → zh_ok (zf_M_leastOf_l0 f m un n v) _ := fun hno v v1 v2 v3 v4 => kk v (by omega) ⟨by omega, fun hv => by rw [v4 hv]; exact xn hi, fun c c1 c2 c3 c4 => by
      by_cases lt : c < x
      · exact xc c c1 c2 lt c4
      · by_cases e : c = x
        · subst e; exact hno c4
        · refine absurd ?_ (v3 c (by omega) c3 (by have := c1.2; omega))
          rw [c2, xn hi]⟩
    rw [ht]
    refine zh_ite (fun hs => ?_) fun hs => zw_gosx x0 hi fun v v1 v2 v3 v4 => nxt (fun w => absurd ((yw_ands zx).mpr w) hs) v v1 v2 v3 v4
    rcases yd_apart f0 f1 hu zx with ⟨e, hcv⟩ | ⟨e, hcv⟩
    · rw [e, zl_b, if_neg (show ¬ (1 : Int) = 0 by decide)]
      refine zh_ret ⟨by omega, zx, xn hi, hcv, fun c c1 c2 c3 c4 => ?_⟩
      by_cases lt : c < x
      · exact absurd c4 (xc c c1 c2 lt c3)
      · omega
    · rw [e, zl_b, if_pos rfl]
      exact zw_gosx x0 hi fun v v1 v2 v3 v4 => nxt (fun _ => hcv) v v1 v2 v3 v4
  · rw [hst, yn_zb (by omega) (by omega), Int.toNat_natCast, show 24 = q + (24 - q) by omega, yz_cut (by omega), yz_ones]
  · rw [hst] at c3
    have c0 := c1.1
    rw [yn_zb c0 (by omega), show 24 = q + (24 - q) by omega, yz_cut (by omega)] at c2
    have := yz_few (v := c.toNat) (m := q) (by omega)
    omega
/-- stars that aren't told are for nothing -/
theorem yd_told {a : Nat} {sh : Int → Int} (hs : yd_sh L tS t h u cl sc sr co ro br T a sh) {c : Int} (hc : z24 c) (hcv : yd_Cv a sh c) : z24 (zi_and c t) ∧ yd_Cv a sh (zi_and c t) ∧ (∀ j, zb (zi_and c t) j = true → zb c j = true ∧ zb t j = true) := by
  have b : ∀ j, zb (zi_and c t) j = true → zb c j = true ∧ zb t j = true := fun j hj => by
    rw [zb_and, Bool.and_eq_true] at hj; exact hj
  refine ⟨z24_and hc, fun p q qp pa => ?_, b⟩
  obtain ⟨i, i1, i2, i3⟩ := hcv p q qp pa
  refine ⟨i, i1, ?_, i3⟩
  have st : ∀ k : Nat, k < a → zb (sh k) i = true → zb t i = true := fun k hk hb => by
    have := (hs k hk).2.2 i
    rw [hb] at this
    have := this.symm
    rw [Bool.and_eq_true, Bool.and_eq_true] at this
    exact this.2.1
  have ht : zb t i = true := by
    cases x : zb (sh p) i
    · cases y : zb (sh q) i
      · rw [x, y] at i3; exact absurd rfl i3
      · exact st q (by omega) y
    · exact st p pa x
  rw [zb_and, i2, ht]; rfl
theorem yo_named {n2 : Int} (R : yl_R L K V nc tS tL sP lP kd fr hf to mc C mk mf mh mt) (k : yk_sky t h u cl sc sr ch co ro br wc wr m) (p : yk_tape n n2 T M) {x w f4 f5 f6 f9 f15 f17 f1 : Int} {g0 g2 g10 g12 g13 g14 e1 e2 e5 e9 : Int → Int} :
    ∃ o1 o2, zf_X_named x w n f4 f5 f6 h u f9 t sc sr cl tS f15 nc f17 sP g0 T g2 co ro br kd hf to K g10 V g12 g13 g14 = some o1 ∧ zf_M_named x w n2 f1 mc M e1 e2 m mk e5 mh mt C e9 = some o2 ∧ o1.1 = o2.1 ∧ (o1.2.1 = if zs_in x 2 8 = 0 then n else if zs_in w 0 1 = 0 then n else if n < 2 * x then n else 0) ∧ (o2.2.1 = if zs_in x 2 8 = 0 then n2 else if zs_in w 0 1 = 0 then n2 else if n2 < 2 * x then n2 else 0) := by
  obtain ⟨hn2, n0, n220, hT⟩ := id p
  have en2 := hn2.symm
  subst en2
  obtain ⟨oX, eX, hX⟩ := yw_namedX (a := x) (w := w) (n := n) (f4 := f4) (f5 := f5) (f6 := f6) (f9 := f9) (f15 := f15) (f17 := f17) (g0 := g0) (g2 := g2) (g10 := g10) (g12 := g12) (g13 := g13) (g14 := g14) R k hT
  obtain ⟨oM, eM, hM⟩ := yw_namedM (a := x) (w := w) (n := n) (f1 := f1) (g1 := e1) (g2 := e2) (g5 := e5) (g9 := e9) R k hT
  refine ⟨oX, oM, eX, eM, ?_, hX, hM⟩
  clear hX hM
  unfold zf_X_named at eX
  unfold zf_M_named at eM
  rw [ze_X_isWithin, zl_b] at eX
  rw [ze_M_in, zl_b] at eM
  by_cases q1 : zs_in x 2 8 = 0
  · rw [if_pos q1] at eX eM
    cases eX; cases eM; rfl
  rw [if_neg q1, ze_X_isWithin, zl_b] at eX
  rw [if_neg q1, ze_M_in, zl_b] at eM
  by_cases q2 : zs_in w 0 1 = 0
  · rw [if_pos q2] at eX eM
    cases eX; cases eM; rfl
  rw [if_neg q2] at eX eM
  obtain ⟨a1, a2⟩ := zs_in_ne q1
  obtain ⟨a, rfl⟩ : ∃ a : Nat, x = a := ⟨x.toNat, by omega⟩
  rw [zi_w_id (x := 2 * (a : Int)) (by omega) (by omega)] at eX eM
  unfold zf_Tape_take at eX
  by_cases q4 : n < 2 * (a : Int)
  · rw [if_pos q4, zl_b, if_pos rfl] at eX
    rw [if_pos q4] at eM
    cases eX; cases eM; rfl
  rw [if_neg q4, zl_b, if_neg (show ¬ (1 : Int) = 0 by decide)] at eX
  rw [if_neg q4] at eM
  obtain ⟨g0', e0, h0⟩ := ze_open (f := f4) (g := g0)
  rw [e0, zl_b] at eX
  dsimp only at eX
  obtain ⟨o, eo, ho⟩ := yd_namedX (T := T) (a := a) (f4 := f4) (f5 := f5) (f6 := f6) (f9 := f9) (f15 := f15) (f17 := f17) (g0 := g0') (g2 := g2) (g10 := g10) (g12 := g12) (g13 := g13) (g14 := g14) R k (by omega) (by omega) (.inr trivial)
  rw [eo, zl_b] at eX
  obtain ⟨r6, er6, h6⟩ := yd_places (a := a) (g := e1) (by omega) hT
  rw [er6, zl_b] at eM
  cases o with
  | inr b =>
    obtain ⟨hb, j, j1, j2⟩ : b.1 = -2 ∧ ∃ k : Nat, k < a ∧ zs_pl (T (2 * (k : Int))) (T (2 * (k : Int) + 1)) = 0 := ho
    dsimp only [Sum.elim] at eX
    have z : r6.1 = 0 := by
      rcases h6 with ⟨-, w2⟩ | ⟨w1, -⟩
      · exact absurd j2 (w2 j j1).1
      · exact w1
    rw [if_pos z] at eM
    rw [← Option.some.inj eX, ← Option.some.inj eM]
    exact hb
  | inl b =>
    obtain ⟨sh, hsh, hs⟩ : ∃ sh, (∀ k : Nat, k < a → b.2.2.2.2.2.2.2.2 k = sh k) ∧ yd_sh L tS t h u cl sc sr co ro br T a sh := ho
    dsimp only [Sum.elim] at eX
    have hs2 : yd_sh L tS t h u cl sc sr co ro br T a b.2.2.2.2.2.2.2.2 := fun j hj => by rw [hsh j hj]; exact hs j hj
    obtain ⟨sh', esh⟩ : ∃ sh', sh' = b.2.2.2.2.2.2.2.2 := ⟨_, rfl⟩
    rw [← esh] at eX hs2
    obtain ⟨r17, er17, h17⟩ := yd_fewest (n := a) (sh := sh') (g0 := g13) (g2 := g14) (by omega) (by omega)
    rw [er17, zl_b] at eX
    -- no set tells all apart
    have none : (¬ ∃ f, yd_M a sh' f ∧ yn_n (zb f) 24 < (a : Int)) → oX.1 = -2 := fun hno => by
      rcases h17 with ⟨w1, -⟩ | ⟨-, w2, w3⟩
      · rw [if_pos w1] at eX
        cases eX; rfl
      · exact absurd ⟨_, w2, w3⟩ hno
    have nocv : ∀ p q : Nat, q < p → p < a → sh' p = sh' q → ¬ ∃ f, yd_M a sh' f ∧ yn_n (zb f) 24 < (a : Int) := fun p q qp pa e ⟨f, hf, _⟩ => by
      obtain ⟨i, -, -, i3⟩ := hf.2.1 p q qp pa
      rw [e] at i3; exact i3 rfl
    rcases h6 with ⟨z1, z2⟩ | ⟨z1, z2⟩
    · rw [if_neg (by rw [z1]; decide)] at eM
      obtain ⟨o2, eo2, ho2⟩ := yd_lays (T := T) (a := a) (g2 := e2) (g5 := e5) (g9 := e9) (at' := r6.2) R k (by omega) hs2 fun j hj => (z2 j hj).2
      rw [eo2, zl_b] at eM
      cases o2 with
      | inr c =>
        obtain ⟨hc, p', q', qp, pa, e⟩ : c.1 = -2 ∧ ∃ p q : Nat, q < p ∧ p < a ∧ sh' p = sh' q := ho2
        dsimp only [Sum.elim] at eM
        rw [none (nocv p' q' qp pa e)]
        rw [← Option.some.inj eM]
        exact hc.symm
      | inl c =>
        obtain ⟨c0, c28, hun⟩ : 0 ≤ c.1 ∧ c.1 ≤ 28 ∧ yd_un a sh' c.2.1 c.1 := ho2
        dsimp only [Sum.elim] at eM
        -- what the reference finds is the least of all
        have low : ∀ x5 : Int, (∀ c, z24 c → yn_n (zb c) 24 < x5 → (∀ j, zb c j = true → zb t j = true) → ¬ yd_Cv a sh' c) → ∀ d, z24 d → yd_Cv a sh' d → x5 ≤ yn_n (zb d) 24 := fun x5 hx d d1 d2 => by
          obtain ⟨t1, t2, t3⟩ := yd_told hs2 d1 d2
          have le := yn_le (f := zb (zi_and d t)) (g := zb d) 24 fun j _ hj => (t3 j hj).1
          by_cases lt : yn_n (zb (zi_and d t)) 24 < x5
          · exact absurd t2 (hx _ t1 lt fun j hj => (t3 j hj).2)
          · omega
        have loop : zh_ok (zf_M_named_l2 (a : Int) w 0 c.1 r6.2 c.2.1 m c.2.2.1 c.2.2.2 zi_fu 1) fun o => match o with
          | .inl _ => ¬ ∃ f, yd_M a sh' f ∧ yn_n (zb f) 24 < (a : Int)
          | .inr d => ∃ f, yd_M a sh' f ∧ yn_n (zb f) 24 < (a : Int) ∧ d.1 = if w = 0 then yn_n (zb f) 24 else f := by
          refine zh_loop (F := fun f i (_ : Unit) => zf_M_named_l2 (a : Int) w 0 c.1 r6.2 c.2.1 m c.2.2.1 c.2.2.2 f i) (N := (a : Int)) (I := fun i _ => 1 ≤ i ∧ ∀ d, z24 d → yn_n (zb d) 24 < i → (∀ j, zb d j = true → zb t j = true) → ¬ yd_Cv a sh' d) (fun f i _ i0 i1 hI kk => ?_) 8 1 () zi_fu (by omega) (by decide) (by omega) (by decide) ⟨by decide, fun d d1 d2 _ d4 => ?_⟩
          · show zh_ok (zf_M_named_l2_b (a : Int) w 0 c.1 r6.2 c.2.1 m c.2.2.1 c.2.2.2 (zf_M_named_l2 (a : Int) w 0 c.1 r6.2 c.2.1 m c.2.2.1 c.2.2.2 f) i) _
            unfold zf_M_named_l2_b
            obtain ⟨v, rfl⟩ : ∃ v : Nat, i = v := ⟨i.toNat, by omega⟩
            obtain ⟨I1, I2⟩ := hI
            refine zh_ite (fun hi => ?_) fun hi => zh_ret fun ⟨f, f1, f2⟩ => ?_
            · rw [zi_w_id (x := (v : Int) + 1) (by omega) (by omega)]
              refine zh_bind (yd_leastOf k c0 c28 hun (q := v) (by omega) (by omega)) fun r hr => ?_
              rcases hr with ⟨r1, r2⟩ | ⟨r1, r2, r3, r4, r5⟩
              · rw [if_pos r1]
                refine kk () hi ⟨by omega, fun d d1 d2 d3 => ?_⟩
                by_cases lt : yn_n (zb d) 24 < (v : Int)
                · exact I2 d d1 lt d3
                · exact r2 d d1 (by omega) d3
              · rw [if_neg r1]
                have hMr : yd_M a sh' r := by
                  refine ⟨r2, r4, fun d d1 d2 => ⟨by rw [r3]; exact low v I2 d d1 d2, fun d3 => ?_⟩⟩
                  obtain ⟨t1, t2, t3⟩ := yd_told hs2 d1 d2
                  have l1 := low v I2 _ t1 t2
                  have e : d = zi_and d t := z24_same t1 d1 (fun j hj => (t3 j hj).1) (by rw [d3, r3]; exact l1)
                  exact r5 d d1 (by rw [d3, r3]) (fun j hj => by rw [e] at hj; exact (t3 j hj).2) d2
                refine zh_ite (fun e => zh_ret ⟨r, hMr, by omega, ?_⟩) fun e => zh_ret ⟨r, hMr, by omega, ?_⟩
                · show (v : Int) = _
                  rw [if_pos e, r3]
                · show r = _
                  rw [if_neg e]
            · have := low v I2 f f1.1 f1.2.1
              omega
          · obtain ⟨i, j1, j2, -⟩ := d4 1 0 (by decide) (by omega)
            have l3 := yn_lt (f := fun _ => false) (g := zb d) (k := i) (by decide) j2 24 j1 fun i _ hi => (by cases hi)
            have l4 := (yn_in (f := fun _ => false) 24).1
            generalize yn_n (fun _ => false) 24 = q at l3 l4
            generalize yn_n (zb d) 24 = q' at l3 d2
            omega
        obtain ⟨o3, eo3, ho3⟩ := loop
        rw [eo3, zl_b] at eM
        cases o3 with
        | inl d =>
          have ho3 : ¬ ∃ f, yd_M a sh' f ∧ yn_n (zb f) 24 < (a : Int) := ho3
          dsimp only [Sum.elim] at eM
          rw [none ho3]
          cases eM; rfl
        | inr d =>
          obtain ⟨f, f1, f2, f3⟩ : ∃ f, yd_M a sh' f ∧ yn_n (zb f) 24 < (a : Int) ∧ d.1 = if w = 0 then yn_n (zb f) 24 else f := ho3
          dsimp only [Sum.elim] at eM
          rcases h17 with ⟨-, w2⟩ | ⟨w1, w2, w3⟩
          · have := w2 f f1; omega
          · have e := yd_M_u w2 f1
            rw [if_neg w1] at eX
            by_cases hw : w = 0
            · rw [if_pos hw, ze_bc w2.1, zl_b] at eX
              rw [if_pos hw] at f3
              rw [← Option.some.inj eX, ← Option.some.inj eM]
              show zs_sum r17.1 24 = d.1
              rw [yn_sum w2.1.1 (by have := w2.1.2; omega) 24, f3, e]
            · rw [if_neg hw] at eX
              rw [if_neg hw] at f3
              rw [← Option.some.inj eX, ← Option.some.inj eM]
              show r17.1 = d.1
              rw [f3, e]
    · rw [if_pos z1] at eM
      have no : ¬ ∃ f, yd_M a sh' f ∧ yn_n (zb f) 24 < (a : Int) := by
        rcases z2 with ⟨j, j1, j2⟩ | ⟨p', q', qp, pa, t1, t2⟩
        · exact absurd j2 (hs2 j j1).1
        · refine nocv p' q' qp pa (yv_is_eq (hs2 p' pa).2 ?_)
          rw [t1, t2]
          exact (hs2 q' (by omega)).2
      rw [none no]
      cases eM; rfl
end YNM
end
section
/-! Constructors of objects of a law's class: run as if no typed cell were there; what they make gets its types at the end. -/
theorem zb_cell_kept {OB : Nat → Nat} {D : va_G} {DA : Nat → ClassId} {cl : List vw_C} {T : zTp} {H H1 : Heap} {a : Nat} {ty : zTy} (h : z_cell OB D DA cl T H a ty) (e : H1[a]? = H[a]?) : z_cell OB D DA cl T H1 a ty := by
  match ty, h with
  | .inl o, ⟨r, q1, q2, V, q3, q4⟩ => exact ⟨r, q1, q2, V, q3.kept e, q4⟩
  | .inr o, ⟨n, f, z1, z2⟩ => exact ⟨n, f, by rw [e]; exact z1, z2⟩
def zc_seg (o q : Nat × (Nat × Nat) × List ((Nat × Nat) × zV)) : Bool := Nat.beq o.1 q.1 && (Nat.ble q.2.1.1 o.2.1.1 && Nat.ble o.2.1.2 q.2.1.2) && q.2.2.all (fun g => o.2.2.any (fun h => Nat.ble h.1.1 g.1.1 && Nat.ble g.1.2 h.1.2 && (match h.2, g.2 with
  | .inl r, .inl w => z_ile w.1 r.1 && z_ile r.2 w.2
  | .inr (.inr 0), .inr (.inr 0) => true
  | _, _ => false)))
def zc_map (f : List (Nat × Nat)) (u : Nat) : Nat := match f.find? (fun q => Nat.beq q.1 u) with
  | some q => q.2
  | none => u
def zc_okf (TY : List zTy) (f : List (Nat × Nat)) : Bool := (List.range TY.length).all (fun u => match TY[u]? with
  | some (.inr o) => (match TY[zc_map f u]? with
    | some (.inr q) => zc_seg o q
    | _ => false)
  | _ => true)
/-- what a field of the new object holds -/
def zc_fv (st : zS) (ci k : Nat) : Option zV := match z_ffind st 0 ci k with
  | some w => z_get (z_V st) w
  | none => none
def zc_fld (TY : List zTy) (f : List (Nat × Nat)) (st : zS) (ci k : Nat) (c : zV) : Bool := match zc_fv st ci k with
  | some (.inl r) => (match c with
    | .inl q => z_ile q.1 r.1 && z_ile r.2 q.2
    | _ => false)
  | some (.inr (.inl u)) => (match TY[u]? with
    | some (.inr _) => (match c with
      | .inr (.inl t) => Nat.beq t (zc_map f u)
      | _ => false)
    | _ => false)
  | _ => false
def zc_a0 (TY : List zTy) (st : zS) (ci k : Nat) : Bool := match zc_fv st ci k with
  | some (.inr (.inl u)) => (match TY[u]? with
    | some (.inr q) => Nat.beq q.1 0
    | _ => false)
  | _ => false
def zc_zr (TY : List zTy) (st : zS) (ci k : Nat) : Bool := match zc_fv st ci k with
  | some (.inr (.inl u)) => (match TY[u]? with
    | some (.inr q) => Nat.beq q.1 0 && Nat.ble 200 q.2.1.1 && q.2.2.any (fun g => Nat.beq g.1.1 0 && Nat.ble 199 g.1.2 && (match g.2 with
      | .inl r => z_ile 0 r.1 && z_ile r.2 0
      | _ => false))
    | _ => false)
  | _ => false
def zc_c0 (st : zS) (ci k : Nat) : Bool := match zc_fv st ci k with
  | some (.inl r) => z_ile 0 r.1 && z_ile r.2 0
  | _ => false
def zc_J (TY : List zTy) (st : zS) (ci : Nat) : Bool := (!(Nat.beq ci 12) || (zc_c0 st 12 13 && (zc_a0 TY st 12 20 && zc_a0 TY st 12 22 && (zc_a0 TY st 12 23 && zc_a0 TY st 12 24)))) && (!(Nat.beq ci 4) || (zc_zr TY st 4 0 && zc_zr TY st 4 1))
def zc_fin (TY : List zTy) (cl : List vw_C) (f : List (Nat × Nat)) (ci tau : Nat) (mk : Nat × Nat) (st : zS) : Bool :=
  ((z_S st).isEmpty && (Nat.ble (z_C st).1 mk.1 && Nat.ble (z_C st).2 mk.2)) && ((z_X st).any (fun q => Nat.beq q.1 0 && Nat.beq q.2 ci) && zc_J TY st ci) && (match TY[tau]?, cl[ci]? with
    | some (.inl o), some r => Nat.beq o.1 ci && Nat.beq o.2.length r.2.2 && (List.range o.2.length).all (fun k => match o.2[k]? with
      | some c => zc_fld TY f st ci k c
      | none => false)
    | _, _ => false)
section ZCONS
variable {OB : Nat → Nat} {D : va_G} {DA : Nat → ClassId} {cl : List vw_C} {FT : Nat → Nat → FieldType} {TY : List zTy} {PHI : List (List Nat)} {sz : Nat} {raw : Option Nat} {pu : Bool} {T0 T : zTp} {H0 H : Heap} {env0 env : List Value} {nL : Nat} {st : zS} {locs : List Loc} {ls : Array Slot} {stk : List Value}
/-- the types at the end -/
def zc_T (TY : List zTy) (f : List (Nat × Nat)) (a tau : Nat) (T0 T : zTp) : zTp := fun q => if q = a then some tau else match T0 q with
  | some t => some t
  | none => (match T q with
    | some u => (match TY[u]? with
      | some (.inr _) => some (zc_map f u)
      | _ => none)
    | none => none)
theorem zc_T_at {f : List (Nat × Nat)} {a tau : Nat} : zc_T TY f a tau T0 T a = some tau := by unfold zc_T; rw [if_pos rfl]
theorem zc_T_old {f : List (Nat × Nat)} {a tau q t : Nat} (h : q ≠ a) (ht : T0 q = some t) : zc_T TY f a tau T0 T q = some t := by
  unfold zc_T; rw [if_neg h, ht]
theorem zc_T_new {f : List (Nat × Nat)} {a tau q u : Nat} {o : Nat × (Nat × Nat) × List ((Nat × Nat) × zV)} (h : q ≠ a) (h0 : T0 q = none) (ht : T q = some u) (hu : TY[u]? = some (.inr o)) : zc_T TY f a tau T0 T q = some (zc_map f u) := by
  unfold zc_T; rw [if_neg h, h0, ht]
  show (match TY[u]? with
      | some (.inr _) => some (zc_map f u)
      | _ => none) = _
  rw [hu]
theorem zc_T_inv {f : List (Nat × Nat)} {a tau q t : Nat} (h : zc_T TY f a tau T0 T q = some t) : (q = a ∧ t = tau) ∨ (q ≠ a ∧ T0 q = some t) ∨ (q ≠ a ∧ T0 q = none ∧ ∃ u o, T q = some u ∧ TY[u]? = some (.inr o) ∧ t = zc_map f u) := by
  unfold zc_T at h
  by_cases e : q = a
  · rw [if_pos e] at h
    exact Or.inl ⟨e, (Option.some.inj h).symm⟩
  · rw [if_neg e] at h
    split at h
    · rename_i t0 ht0
      exact Or.inr (Or.inl ⟨e, ht0.trans h⟩)
    · rename_i ht0
      split at h
      · rename_i u hu
        split at h
        · rename_i o ho
          exact Or.inr (Or.inr ⟨e, ht0, u, o, hu, ho, (Option.some.inj h).symm⟩)
        · cases h
      · cases h
theorem zc_fv_ok {ci k : Nat} {c : zV} (h : zc_fv st ci k = some c) (hs : z_sat OB D DA cl TY PHI sz raw pu T0 H0 env0 nL st T H locs env ls stk) : ∃ (a : Nat) (v : Value), env[0]? = some (.ref a) ∧ z_sl H a (D.2 ci k) v ∧ z_v OB T c v := by
  unfold zc_fv at h
  split at h
  · rename_i w hw
    obtain ⟨a, v, e1, e2, e3⟩ := z_ffind_ok hw hs
    obtain ⟨v2, e4, e5⟩ := z_get_ok hs.2.2.2.2.1 h
    rw [e2] at e4
    cases e4
    exact ⟨a, v, e1, e3, e5⟩
  · cases h
theorem zc_fld_ok {f : List (Nat × Nat)} {ci k : Nat} {c : zV} (h : zc_fld TY f st ci k c = true) : (∃ r q, zc_fv st ci k = some (.inl r) ∧ c = .inl q ∧ z_ile q.1 r.1 = true ∧ z_ile r.2 q.2 = true) ∨ (∃ u o, zc_fv st ci k = some (.inr (.inl u)) ∧ TY[u]? = some (.inr o) ∧ c = .inr (.inl (zc_map f u))) := by
  unfold zc_fld at h
  split at h
  · rename_i r hr
    split at h
    · rename_i q
      rw [Bool.and_eq_true] at h
      exact Or.inl ⟨r, q, hr, rfl, h.1, h.2⟩
    · cases h
  · rename_i u hu
    split at h
    · rename_i o ho
      split at h
      · rename_i t
        have et : t = zc_map f u := z_beq h
        subst et
        exact Or.inr ⟨u, o, hu, ho, rfl⟩
      · cases h
    · cases h
  · cases h
/-- the run's cells: new ones -/
theorem zc_new {a q u : Nat} (hs : z_sat OB D DA cl TY PHI sz (some a) false (fun _ => none) H0 env0 nL st T H locs env ls stk) (hTa : T a = none) (h : T q = some u) : H0.size ≤ q ∧ q ≠ a := by
  have hm := hs.2.2.2.2.2.2.2.2.2.2.2.2.1
  refine ⟨?_, fun e => by rw [e, hTa] at h; cases h⟩
  rcases Nat.lt_or_ge q H0.size with lt | ge
  · have := (hm q lt rfl (fun e => by cases e; rw [hTa] at h; cases h)).1
    rw [this] at h
    cases h
  · exact ge
theorem zc_arr {f : List (Nat × Nat)} {q u : Nat} {o : Nat × (Nat × Nat) × List ((Nat × Nat) × zV)} {T2 : zTp} (hf : zc_okf TY f = true) (hu : TY[u]? = some (.inr o)) (hc : z_cell OB D DA cl T H q (.inr o)) : ∃ o2, TY[zc_map f u]? = some (.inr o2) ∧ z_cell OB D DA cl T2 H q (.inr o2) := by
  have h1 := List.all_eq_true.mp hf u (List.mem_range.mpr (List.getElem?_eq_some_iff.mp hu).1)
  rw [hu] at h1
  simp only at h1
  split at h1
  · rename_i o2 ho2
    refine ⟨o2, ho2, ?_⟩
    unfold zc_seg at h1
    simp only [Bool.and_eq_true] at h1
    obtain ⟨⟨e1, e2, e3⟩, e4⟩ := h1
    obtain ⟨n, g, z1, z2, z3, z4, z5⟩ := hc
    have l2 := Nat.le_of_ble_eq_true e2
    have l3 := Nat.le_of_ble_eq_true e3
    refine ⟨n, g, by rw [← z_beq e1]; exact z1, by omega, by omega, z4, fun s hs j j1 j2 j3 => ?_⟩
    obtain ⟨s2, k1, k2⟩ := List.any_eq_true.mp (List.all_eq_true.mp e4 s hs)
    simp only [Bool.and_eq_true] at k2
    obtain ⟨⟨k3, k4⟩, k5⟩ := k2
    have m3 := Nat.le_of_ble_eq_true k3
    have m4 := Nat.le_of_ble_eq_true k4
    have hv := z5 s2 k1 j j1 (by omega) (by omega)
    split at k5
    · rename_i r w hr hw
      rw [hr] at hv
      rw [hw]
      rw [Bool.and_eq_true] at k5
      obtain ⟨x, ex, hx⟩ := hv
      exact ⟨x, ex, z_in_le (z_ile_ok k5.1) (z_ile_ok k5.2) hx⟩
    · rename_i hr hw
      rw [hr] at hv
      rw [hw]
      exact hv
    · cases k5
  · cases h1
/-- the heap at the end is typed -/
theorem zc_ht {f : List (Nat × Nat)} {a tau ci : Nat} {T1 : zTp} {mk : Nat × Nat} (hf : zc_okf TY f = true) (h0 : z_ht OB D DA cl TY T1 H0) (hTa1 : T1 a = none) (hs : z_sat OB D DA cl TY PHI sz (some a) false (fun _ => none) H0 env0 nL st T H locs env ls stk) (he : env[0]? = some (.ref a)) (hfin : zc_fin TY cl f ci tau mk st = true) : z_ht OB D DA cl TY (zc_T TY f a tau T1 T) H := by
  unfold zc_fin at hfin
  simp only [Bool.and_eq_true] at hfin
  obtain ⟨⟨-, hX, hJ⟩, hF⟩ := hfin
  obtain ⟨q0, hq0, hq1⟩ := List.any_eq_true.mp hX
  rw [Bool.and_eq_true] at hq1
  obtain ⟨a2, x1, x2, x3, r, V, x4, x5⟩ := z_fx_in hs.2.2.2.2.2.2.2.2.1 q0 hq0
  rw [z_beq hq1.1, he] at x1
  have ea : a = a2 := by cases x1; rfl
  subst ea
  have eci : q0.2 = ci := z_beq hq1.2
  rw [eci] at x4 x5
  have hm := hs.2.2.2.2.2.2.2.2.2
  have old : ∀ q t, T1 q = some t → q ≠ a ∧ H[q]? = H0[q]? ∧ q < H0.size := by
    intro q t ht
    obtain ⟨ty, y1, y2⟩ := h0.1 q t ht
    have lt := z_cell_lt y2
    have hne : q ≠ a := fun e => by rw [e, hTa1] at ht; cases ht
    exact ⟨hne, (hm.2.2.2.1 q lt rfl (fun e => by cases e; exact hne rfl)).2, lt⟩
  have new : ∀ q u, T q = some u → H0.size ≤ q ∧ q ≠ a ∧ T1 q = none := by
    intro q u hu
    obtain ⟨n1, n2⟩ := zc_new hs x2 hu
    refine ⟨n1, n2, ?_⟩
    cases hT : T1 q with
    | none => rfl
    | some t => have := (old q t hT).2.2; omega
  have fv : ∀ {k : Nat} {c : zV}, zc_fv st ci k = some c → ∃ v, z_sl H a (D.2 ci k) v ∧ z_v OB T c v := by
    intro k c hc
    obtain ⟨a3, v, e1, e2, e3⟩ := zc_fv_ok hc hs
    rw [he] at e1
    have : a = a3 := by cases e1; rfl
    subst this
    exact ⟨v, e2, e3⟩
  split at hF
  · rename_i o r2 ho hr2
    rw [x4] at hr2
    cases hr2
    obtain ⟨oc, fl⟩ := o
    rw [Bool.and_eq_true, Bool.and_eq_true] at hF
    obtain ⟨⟨f1, f2⟩, f3⟩ := hF
    have eoc : oc = ci := z_beq f1
    subst eoc
    have hcell : z_cell OB D DA cl (zc_T TY f a tau T1 T) H a (.inl (oc, fl)) := by
      refine ⟨r, x4, z_beq f2, V, x5, fun k c hk => ?_⟩
      have hk : fl[k]? = some c := hk
      have hlt : k < fl.length := (List.getElem?_eq_some_iff.mp hk).1
      have f4 := List.all_eq_true.mp f3 k (List.mem_range.mpr hlt)
      have f4 : (match fl[k]? with
        | some c => zc_fld TY f st oc k c
        | none => false) = true := f4
      rw [hk] at f4
      have f4 : zc_fld TY f st oc k c = true := f4
      have hV : ∀ v, z_sl H a (D.2 oc k) v → V k = v := by
        intro v hv
        obtain ⟨cell, c1, c2, c3, c4⟩ := x5
        exact zj_fun ⟨cell, c1, c3, c4 k (by rw [← z_beq f2]; exact hlt)⟩ hv
      rcases zc_fld_ok f4 with ⟨rr, qq, hrr, rfl, q1, q2⟩ | ⟨u, o2, hu, ho2, rfl⟩
      · obtain ⟨v, v1, v2⟩ := fv hrr
        rw [hV v v1]
        obtain ⟨x, ex, hx⟩ := v2
        exact ⟨x, ex, z_in_le (z_ile_ok q1) (z_ile_ok q2) hx⟩
      · obtain ⟨v, v1, v2⟩ := fv hu
        rw [hV v v1]
        obtain ⟨b, eb, hb⟩ := v2
        obtain ⟨-, n2, n3⟩ := new b u hb
        exact ⟨b, eb, zc_T_new n2 n3 hb ho2⟩
    have sub : ∀ b t, T1 b = some t → zc_T TY f a tau T1 T b = some t := fun b t hb => zc_T_old (old b t hb).1 hb
    have base : ∀ q t, zc_T TY f a tau T1 T q = some t → ∃ ty, TY[t]? = some ty ∧ z_cell OB D DA cl (zc_T TY f a tau T1 T) H q ty := by
      intro q t hq
      rcases zc_T_inv hq with ⟨rfl, rfl⟩ | ⟨e, h1⟩ | ⟨e, h1, u, o2, h2, h3, rfl⟩
      · exact ⟨_, ho, hcell⟩
      · obtain ⟨ty, y1, y2⟩ := h0.1 q t h1
        refine ⟨ty, y1, z_cell_mono (T := T1) (fun b t hb => sub b t hb) ?_⟩
        exact zb_cell_kept y2 (old q t h1).2.1
      · obtain ⟨ty, y1, y2⟩ := hm.1.1 q u h2
        rw [h3] at y1
        cases y1
        obtain ⟨o4, k1, k2⟩ := zc_arr (T2 := zc_T TY f a tau T1 T) hf h3 y2
        exact ⟨_, k1, k2⟩
    have cls : ∀ q t c fl2, zc_T TY f a tau T1 T q = some t → TY[t]? = some (.inl (c, fl2)) → (q = a ∧ c = oc) ∨ (q ≠ a ∧ T1 q = some t) := by
      intro q t c fl2 hq hty
      rcases zc_T_inv hq with ⟨rfl, rfl⟩ | ⟨e, h1⟩ | ⟨e, h1, u, o2, h2, h3, rfl⟩
      · rw [ho] at hty
        cases hty
        exact Or.inl ⟨rfl, rfl⟩
      · exact Or.inr ⟨e, h1⟩
      · obtain ⟨ty, y1, y2⟩ := hm.1.1 q u h2
        rw [h3] at y1
        cases y1
        obtain ⟨o4, k1, k2⟩ := zc_arr (T2 := T) hf h3 y2
        rw [hty] at k1
        cases k1
    have a0 : ∀ {k : Nat}, zc_a0 TY st oc k = true → ∃ (b : Nat) (g : Int → Int), z_sl H a (D.2 oc k) (.ref b) ∧ zj_c (zc_T TY f a tau T1 T) DA H b g ∧ H0.size ≤ b := by
      intro k hk
      unfold zc_a0 at hk
      split at hk
      · rename_i u hu
        obtain ⟨v, v1, b, rfl, v2⟩ := fv hu
        split at hk
        · rename_i o2 ho2
          obtain ⟨n1, n2, n3⟩ := new b u v2
          obtain ⟨ty, y1, y2⟩ := hm.1.1 b u v2
          rw [ho2] at y1
          cases y1
          obtain ⟨n, g, z1, -⟩ := y2
          rw [z_beq hk] at z1
          exact ⟨b, _, v1, ⟨by rw [zc_T_new n2 n3 v2 ho2]; rfl, n, g, z1, rfl⟩, n1⟩
        · cases hk
      · cases hk
    have zr : ∀ {k : Nat}, zc_zr TY st oc k = true → ∃ (b : Nat) (g : Int → Int), z_sl H a (D.2 oc k) (.ref b) ∧ zj_c (zc_T TY f a tau T1 T) DA H b g ∧ H0.size ≤ b ∧ ∀ i : Int, 0 ≤ i → i < 200 → g i = 0 := by
      intro k hk
      unfold zc_zr at hk
      split at hk
      · rename_i u hu
        obtain ⟨v, v1, b, rfl, v2⟩ := fv hu
        split at hk
        · rename_i o2 ho2
          simp only [Bool.and_eq_true] at hk
          obtain ⟨⟨k1, k2⟩, k3⟩ := hk
          obtain ⟨n1, n2, n3⟩ := new b u v2
          obtain ⟨ty, y1, y2⟩ := hm.1.1 b u v2
          rw [ho2] at y1
          cases y1
          obtain ⟨n, g, z1, z2, z3, z4, z5⟩ := y2
          rw [z_beq k1] at z1
          have l2 := Nat.le_of_ble_eq_true k2
          obtain ⟨s, s1, s2⟩ := List.any_eq_true.mp k3
          simp only [Bool.and_eq_true] at s2
          obtain ⟨⟨s3, s4⟩, s5⟩ := s2
          have l4 := Nat.le_of_ble_eq_true s4
          refine ⟨b, _, v1, ⟨by rw [zc_T_new n2 n3 v2 ho2]; rfl, n, g, z1, rfl⟩, n1, fun i i1 i2 => ?_⟩
          have hv := z5 s s1 i.toNat (by omega) (by rw [z_beq s3]; exact Nat.zero_le _) (by omega)
          split at s5
          · rename_i rr hrr
            rw [hrr] at hv
            rw [Bool.and_eq_true] at s5
            obtain ⟨x, ex, hx1, hx2⟩ := hv
            have q1 := z_ile_ok s5.1
            have q2 := z_ile_ok s5.2
            show (match g i.toNat with
              | .int x => x.toInt
              | _ => 0) = 0
            rw [ex]
            show x.toInt = 0
            omega
          · cases s5
        · cases hk
      · cases hk
    unfold zc_J at hJ
    simp only [Bool.and_eq_true] at hJ
    have hobj : zj_obj (zc_T TY f a tau T1 T) D DA H a oc := by
      refine ⟨fun e => ?_, fun e => ?_⟩
      · subst e
        have h1 := hJ.1
        have hb : Nat.beq 12 12 = true := rfl
        simp only [hb, Bool.not_true, Bool.false_or, Bool.and_eq_true] at h1
        obtain ⟨c0, ⟨j1, j2⟩, j3, j4⟩ := h1
        obtain ⟨b1, g1, s1, w1, -⟩ := a0 j1
        obtain ⟨b2, g2, s2, w2, -⟩ := a0 j2
        obtain ⟨b3, g3, s3, w3, -⟩ := a0 j3
        obtain ⟨b4, g4, s4, w4, -⟩ := a0 j4
        unfold zc_c0 at c0
        split at c0
        · rename_i rr hrr
          obtain ⟨v, v1, x, rfl, hx1, hx2⟩ := fv hrr
          rw [Bool.and_eq_true] at c0
          have q1 := z_ile_ok c0.1
          have q2 := z_ile_ok c0.2
          have hx : x.toInt = 0 := by omega
          exact ⟨x, b1, b2, b3, b4, g1, g2, g3, g4, v1, ⟨s1, w1⟩, ⟨s2, w2⟩, ⟨s3, w3⟩, ⟨s4, w4⟩, fun _ => 0, 0, Int.le_refl _, by omega, fun k k1 k2 => absurd k1 (by omega), by omega, by omega, fun q q1 q2 => absurd q1 (by omega)⟩
        · cases c0
      · subst e
        have h1 := hJ.2
        have hb : Nat.beq 4 4 = true := rfl
        simp only [hb, Bool.not_true, Bool.false_or, Bool.and_eq_true] at h1
        obtain ⟨b1, g1, s1, w1, -, e1⟩ := zr h1.1
        obtain ⟨b2, g2, s2, w2, -, e2⟩ := zr h1.2
        refine ⟨b1, b2, g1, g2, ⟨s1, w1⟩, ⟨s2, w2⟩, fun k k1 k2 => ?_⟩
        rw [e1 k k1 k2, e2 k k1 k2]
        exact ⟨by omega, by omega, by omega, by omega, fun _ => by omega⟩
    have fresh : ∀ k ∈ zj_refs oc, ∀ b : Nat, z_sl H a (D.2 oc k) (.ref b) → H0.size ≤ b := by
      intro k hk b hb
      by_cases e : oc = 12
      · subst e
        have h1 := hJ.1
        have hb2 : Nat.beq 12 12 = true := rfl
        simp only [hb2, Bool.not_true, Bool.false_or, Bool.and_eq_true] at h1
        obtain ⟨c0, ⟨j1, j2⟩, j3, j4⟩ := h1
        have hk : k ∈ [20, 22, 23, 24] := hk
        simp only [List.mem_cons, List.not_mem_nil, or_false] at hk
        have fin : ∀ {k2 : Nat}, zc_a0 TY st 12 k2 = true → z_sl H a (D.2 12 k2) (.ref b) → H0.size ≤ b := by
          intro k2 j hb3
          obtain ⟨b1, g1, s1, w1, l1⟩ := a0 j
          have := zj_fun s1 hb3
          cases this
          exact l1
        rcases hk with rfl | rfl | rfl | rfl
        · exact fin j1 hb
        · exact fin j2 hb
        · exact fin j3 hb
        · exact fin j4 hb
      · by_cases e4 : oc = 4
        · subst e4
          have h1 := hJ.2
          have hb2 : Nat.beq 4 4 = true := rfl
          simp only [hb2, Bool.not_true, Bool.false_or, Bool.and_eq_true] at h1
          have hk : k ∈ [0, 1] := hk
          simp only [List.mem_cons, List.not_mem_nil, or_false] at hk
          have fin : ∀ {k2 : Nat}, zc_zr TY st 4 k2 = true → z_sl H a (D.2 4 k2) (.ref b) → H0.size ≤ b := by
            intro k2 j hb3
            obtain ⟨b1, g1, s1, w1, l1, -⟩ := zr j
            have := zj_fun s1 hb3
            cases this
            exact l1
          rcases hk with rfl | rfl
          · exact fin h1.1 hb
          · exact fin h1.2 hb
        · exfalso
          have n1 : Nat.beq oc 12 = false := by
            cases hb : Nat.beq oc 12 with
            | false => rfl
            | true => exact absurd (Nat.eq_of_beq_eq_true hb) e
          have n2 : Nat.beq oc 4 = false := by
            cases hb : Nat.beq oc 4 with
            | false => rfl
            | true => exact absurd (Nat.eq_of_beq_eq_true hb) e4
          unfold zj_refs at hk
          rw [n1, n2] at hk
          exact absurd hk List.not_mem_nil
    have kept : ∀ q t c fl2, T1 q = some t → TY[t]? = some (.inl (c, fl2)) → ∀ k (b : Nat), k ∈ zj_refs c → z_sl H q (D.2 c k) (.ref b) → b < H0.size := by
      intro q t c fl2 hq hty k b hk hb
      obtain ⟨b0, s0⟩ := zj_has (h0.2.1 q t c fl2 hq hty) hk
      have s1 : z_sl H q (D.2 c k) (.ref b0) := by
        obtain ⟨cell, c1, c2⟩ := s0
        exact ⟨cell, by rw [(old q t hq).2.1]; exact c1, c2⟩
      have := zj_fun s1 hb
      cases this
      have ob := h0.2.1 q t c fl2 hq hty
      have some1 : (T1 b).isSome = true := by
        by_cases e : c = 12
        · subst e
          obtain ⟨cs, b1, b2, b3, b4, g1, g2, g3, g4, -, ⟨u1, w1⟩, ⟨u2, w2⟩, ⟨u3, w3⟩, ⟨u4, w4⟩, -⟩ := ob.1 rfl
          have hk : k ∈ [20, 22, 23, 24] := hk
          simp only [List.mem_cons, List.not_mem_nil, or_false] at hk
          rcases hk with rfl | rfl | rfl | rfl
          · have := zj_fun u1 s0; cases this; exact w1.1
          · have := zj_fun u2 s0; cases this; exact w2.1
          · have := zj_fun u3 s0; cases this; exact w3.1
          · have := zj_fun u4 s0; cases this; exact w4.1
        · by_cases e4 : c = 4
          · subst e4
            obtain ⟨b1, b2, g1, g2, ⟨u1, w1⟩, ⟨u2, w2⟩, -⟩ := ob.2 rfl
            have hk : k ∈ [0, 1] := hk
            simp only [List.mem_cons, List.not_mem_nil, or_false] at hk
            rcases hk with rfl | rfl
            · have := zj_fun u1 s0; cases this; exact w1.1
            · have := zj_fun u2 s0; cases this; exact w2.1
          · exfalso
            have n1 : Nat.beq c 12 = false := by
              cases hb : Nat.beq c 12 with
              | false => rfl
              | true => exact absurd (Nat.eq_of_beq_eq_true hb) e
            have n2 : Nat.beq c 4 = false := by
              cases hb : Nat.beq c 4 with
              | false => rfl
              | true => exact absurd (Nat.eq_of_beq_eq_true hb) e4
            unfold zj_refs at hk
            rw [n1, n2] at hk
            exact absurd hk List.not_mem_nil
      cases hT : T1 b with
      | none => rw [hT] at some1; cases some1
      | some u => exact (old b u hT).2.2
    refine ⟨base, fun q t c fl2 hq hty => ?_, fun q q' t t' c fl2 fl2' h1 h2 h3 h4 k hk b h5 h6 => ?_⟩
    · rcases cls q t c fl2 hq hty with ⟨rfl, rfl⟩ | ⟨e, h1⟩
      · exact hobj
      · refine zj_kept (h0.2.1 q t c fl2 h1 hty) (fun b hb => ?_) (fun k hk w hw => ?_) (fun k hk b hb hb2 => ?_)
        · cases hT : T1 b with
          | none => rw [hT] at hb; cases hb
          | some u => rw [sub b u hT]; rfl
        · obtain ⟨cell, c1, c2⟩ := hw
          exact ⟨cell, by rw [(old q t h1).2.1]; exact c1, c2⟩
        · cases hT : T1 b with
          | none => rw [hT] at hb2; cases hb2
          | some u => exact (old b u hT).2.1
    · rcases cls q t c fl2 h1 h2 with ⟨e1, e2⟩ | ⟨e1, g1⟩
      · rcases cls q' t' c fl2' h3 h4 with ⟨e3, e4⟩ | ⟨e3, g3⟩
        · rw [e1, e3]
        · subst e2
          rw [e1] at h5
          have l1 := fresh k hk b h5
          have l2 := kept q' t' _ fl2' g3 h4 k b hk h6
          omega
      · rcases cls q' t' c fl2' h3 h4 with ⟨e3, e4⟩ | ⟨e3, g3⟩
        · subst e4
          rw [e3] at h6
          have l1 := fresh k hk b h6
          have l2 := kept q t _ fl2 g1 h2 k b hk h5
          omega
        · have old5 : z_sl H0 q (D.2 c k) (.ref b) := by
            obtain ⟨cell, c1, c2⟩ := h5
            exact ⟨cell, by rw [← (old q t g1).2.1]; exact c1, c2⟩
          have old6 : z_sl H0 q' (D.2 c k) (.ref b) := by
            obtain ⟨cell, c1, c2⟩ := h6
            exact ⟨cell, by rw [← (old q' t' g3).2.1]; exact c1, c2⟩
          exact h0.2.2 q q' t t' c fl2 fl2' g1 h2 g3 h4 k hk b old5 old6
  · cases hF
end ZCONS
end
