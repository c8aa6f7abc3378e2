/-! One hour by a star in the class, and steered on both sides. -/
theorem zl_bb {α β γ : Type} {x : Option α} {f : α → Option β} {g : β → Option γ} : ((x.bind f).bind g) = x.bind fun a => (f a).bind g := by cases x <;> rfl
section YSX
variable {L : zLW} {K V kd fr hf to C mk mf mh mt : Int → Int} {nc tS tL sP lP mc : Int} {t h u cl sc sr ch ts p i : Int} {co ro br wc wr m gp gl : Int → Int}
theorem yx_step (R : yl_R L K V nc tS tL sP lP kd fr hf to mc C mk mf mh mt) (k : yk_sky t h u cl sc sr ch co ro br wc wr m) (z : yk_sea ts gp gl m) (p1 : 0 ≤ p) (p2 : p < 288) (i1 : 0 ≤ i) (i2 : i < 24) (hti : zb t i.toNat = true) {f2 f3 as ho f14 : Int} {g S : Int → Int} (hc : yv_ca L sP h u co ro br as ho) :
    ∃ as' ho' a' g' S', zf_Pilot_step p i f2 f3 h u t sc sr cl tS as ho nc f14 sP g co ro br kd hf to K S V gl = some ((if yv_see L tS h u cl sc sr co ro br (p % 24) (p / 24) i = true then yg_st gl p (yg_tr (p % 24) (yv_st h co i)) (ro i - p / 24) else p), p % 24, p / 24, as', ho', a', g', S') ∧ yv_ca L sP h u co ro br as' ho' := by
  obtain ⟨⟨ht, k126⟩, ⟨⟨h1, h2⟩, k128⟩, k129, ⟨hcl, -⟩, -, -, -, ki⟩ := k
  obtain ⟨⟨⟨c1, c2⟩, ⟨r1, r2⟩, -⟩, -, -⟩ := ki i i1 i2
  obtain ⟨g1, eg, hg⟩ := ze_goTo (x := p % 24) (y := p / 24) (f0 := f2) (f1 := f3) (h := h) (u := u) (g := g)
  obtain ⟨as', ho', a', g', S', e1, hg', hc'⟩ := yx_sees (t := t) (cl := cl) (sc := sc) (sr := sr) (f13 := f14) (S := S) (x := p % 24) (y := p / 24) R ht hcl h1 h2 i1 i2 c1 c2 r1 r2 (by omega) (by omega) (by omega) (by omega) hg hc
  refine ⟨as', ho', a', g', S', ?_, hc'⟩
  have hst := yv_st_in (h := h) (co := co) (i := i)
  unfold zf_Pilot_step
  rw [ze_X_columnOf p1 p2, zl_b, ze_X_rowOf p1 p2, zl_b, eg, zl_b]
  show ((zf_View_sees i t h (p % 24) (p / 24) sc sr cl tS as ho nc f14 sP co ro g1 br kd hf to K S V).bind _) = _
  rw [e1, zl_b, hti, Bool.true_and]
  by_cases hs : yv_see L tS h u cl sc sr co ro br (p % 24) (p / 24) i = true
  · rw [if_pos hs, if_neg (show ¬ (1 : Int) = 0 by decide), if_pos hs, ze_Sky_standing i1 i2 c1 c2 h1 h2, zl_b, show (co i + h) % 24 = yv_st h co i from rfl, zi_w_id (x := yv_st h co i - p % 24) (by omega) (by omega), ze_floorMod (by omega) (by omega), zl_b, zi_w_id (x := 24 - (yv_st h co i - p % 24) % 24) (by omega) (by omega), ze_Math_min, zl_b, zl_ci i1 (by omega), zi_w_id (x := ro i - p / 24) (by omega) (by omega), ze_Math_ab2 (by omega) (by omega), zl_b]
    have e7 : ∃ r7, (yv_st h co i - p % 24) % 24 = r7 ∧ 0 ≤ r7 ∧ r7 ≤ 23 ∧ yg_tr (p % 24) (yv_st h co i) = if 12 < r7 then r7 - 24 else r7 := by
      refine ⟨_, rfl, by omega, by omega, ?_⟩
      unfold yg_tr
      (repeat' split) <;> omega
    obtain ⟨r7, er7, q1, q2, etr⟩ := e7
    have e8 : ∃ r8, (if 24 - r7 < r7 then 24 - r7 else r7) = r8 ∧ 0 ≤ r8 ∧ yg_ab (yg_tr (p % 24) (yv_st h co i)) = r8 ∧ (r8 = 0 ↔ r7 = 0) := by
      refine ⟨_, rfl, ?_, ?_, ?_⟩
      · split <;> omega
      · rw [etr]
        unfold yg_ab
        (repeat' split) <;> omega
      · split <;> omega
    obtain ⟨r8, er8, q3, eab, q4⟩ := e8
    rw [er7, er8]
    generalize hup : ro i - p / 24 = up
    have u1 : 0 ≤ up + p / 24 := by omega
    have u2 : up + p / 24 ≤ 11 := by omega
    have hab := yg_ab_in (a := up)
    have nxt : ∀ how q, yg_go p how = q → q ≠ -1 → ((zf_Sea_goFrom p how gl).bind fun r29 => (if r29 = (-1) then (some (p, p % 24, p / 24, as', ho', a', g', S')) else (some (r29, p % 24, p / 24, as', ho', a', g', S')))) = some ((if yg_ld gl q = true then p else q), p % 24, p / 24, as', ho', a', g', S') := by
      intro how q eq hq
      rw [ze_goFrom z p1 p2, zl_b, eq]
      by_cases hl : yg_ld gl q = true
      · rw [if_pos (Or.inr hl), if_pos rfl, if_pos hl]
      · rw [show (if q = -1 ∨ yg_ld gl q = true then -1 else q) = q from if_neg (fun hh => hh.elim hq hl), if_neg hq, if_neg hl]
    have tail : ¬ (r8 = 0 ∧ up = 0) → (if r8 < yg_ab up then (if 0 < up then ((zf_Sea_goFrom p 3 gl).bind fun r29 => (if r29 = (-1) then (some (p, p % 24, p / 24, as', ho', a', g', S')) else (some (r29, p % 24, p / 24, as', ho', a', g', S')))) else ((zf_Sea_goFrom p 4 gl).bind fun r27 => (if r27 = (-1) then (some (p, p % 24, p / 24, as', ho', a', g', S')) else (some (r27, p % 24, p / 24, as', ho', a', g', S'))))) else (if 12 < r7 then ((zf_Sea_goFrom p 2 gl).bind fun r32 => (if r32 = (-1) then (some (p, p % 24, p / 24, as', ho', a', g', S')) else (some (r32, p % 24, p / 24, as', ho', a', g', S')))) else ((zf_Sea_goFrom p 1 gl).bind fun r34 => (if r34 = (-1) then (some (p, p % 24, p / 24, as', ho', a', g', S')) else (some (r34, p % 24, p / 24, as', ho', a', g', S'))))))
        = some (yg_st gl p (yg_tr (p % 24) (yv_st h co i)) up, p % 24, p / 24, as', ho', a', g', S') := by
      intro hno
      unfold yg_st
      rw [eab, etr]
      by_cases hcmp : r8 < yg_ab up
      · rw [if_pos hcmp, if_pos hcmp]
        by_cases hu : 0 < up
        · rw [if_pos hu, if_pos hu]
          exact nxt 3 (p + 24 * 1) (by unfold yg_go; rw [if_neg (by decide), if_neg (by decide), if_pos rfl, if_neg (by omega)]; rfl) (by omega)
        · have hu2 : up < 0 := by omega
          rw [if_neg hu, if_neg hu, if_pos hu2]
          exact nxt 4 (p + 24 * -1) (by unfold yg_go; rw [if_neg (by decide), if_neg (by decide), if_neg (by decide), if_pos rfl, if_neg (by omega)]; omega) (by omega)
      · rw [if_neg hcmp, if_neg hcmp]
        by_cases h12 : 12 < r7
        · rw [if_pos h12, if_pos h12, if_neg (show ¬ 0 < r7 - 24 by omega), if_pos (show r7 - 24 < 0 by omega)]
          exact nxt 2 _ (by unfold yg_go; rw [if_neg (by decide), if_pos rfl, show p % 24 + -1 + 24 = p % 24 + 23 by omega]) (by omega)
        · have hr7 : 0 < r7 := by
            apply Int.not_le.mp
            intro hle
            exact hno ⟨q4.mpr (by omega), by omega⟩
          rw [if_neg h12, if_neg h12, if_pos hr7]
          exact nxt 1 _ (by unfold yg_go; rw [if_pos rfl]; omega) (by omega)
    by_cases h8 : r8 = 0
    · rw [if_pos h8]
      by_cases hu : up = 0
      · rw [if_pos hu]
        have : yg_st gl p (yg_tr (p % 24) (yv_st h co i)) up = p := by
          unfold yg_st
          rw [eab, etr, h8, hu, if_neg (by unfold yg_ab; decide)]
          have h7 := q4.mp h8
          rw [h7, if_neg (show ¬ (12 : Int) < 0 by decide), if_neg (show ¬ (0 : Int) < 0 by decide), if_neg (show ¬ (0 : Int) < 0 by decide), show 24 * (p / 24) + (p % 24 + 0 + 24) % 24 = p by omega]
          split <;> rfl
        rw [this]
      · rw [if_neg hu]
        exact tail (fun hh => hu hh.2)
    · rw [if_neg h8]
      exact tail (fun hh => h8 hh.1)
  · rw [if_neg hs, if_pos rfl, if_neg hs]
theorem yk_sea_fr (z : yk_sea ts gp gl m) {m2 : Int → Int} (e : ∀ j, (120 ≤ j ∧ j ≤ 125) ∨ j = 127 ∨ 134 ≤ j → m2 j = m j) : yk_sea ts gp gl m2 := by
  obtain ⟨⟨z1, z2, z3, z4, z5, z6⟩, z7⟩ := z
  refine ⟨⟨z1, z2, (e _ (Or.inr (Or.inl rfl))).trans z3, fun s s1 s2 => (e _ (by omega)).trans (z4 s s1 s2), z5, fun x y x1 x2 y1 y2 => (e _ (by omega)).trans (z6 x y x1 x2 y1 y2)⟩, z7⟩
theorem yk_sea_up (z : yk_sea ts gp gl m) {s q : Int} (s1 : 0 ≤ s) (s2 : s < 6) (q1 : 0 ≤ q) (q2 : q < 288) : yk_sea ts (zv_up gp s q) gl (zv_up m (120 + s) q) := by
  obtain ⟨⟨z1, z2, z3, z4, z5, z6⟩, z7⟩ := z
  refine ⟨⟨z1, z2, by rw [zv_up_n (by omega)]; exact z3, fun j j1 j2 => ?_, z5, fun x y x1 x2 y1 y2 => by rw [zv_up_n (by omega)]; exact z6 x y x1 x2 y1 y2⟩, fun j j1 j2 => ?_⟩
  · by_cases e : j = s
    · rw [e, zv_up_s, zv_up_s]
    · rw [zv_up_n e, zv_up_n (by omega)]; exact z4 j j1 j2
  · by_cases e : j = s
    · rw [e, zv_up_s]; exact ⟨q1, q2⟩
    · rw [zv_up_n e]; exact z7 j j1 j2
theorem yk_sky_fr (k : yk_sky t h u cl sc sr ch co ro br wc wr m) {m2 : Int → Int} (e : ∀ j, j < 120 ∨ j = 126 ∨ (128 ≤ j ∧ j ≤ 133) → m2 j = m j) : yk_sky t h u cl sc sr ch co ro br wc wr m2 := by
  obtain ⟨⟨ht, k126⟩, hk2, k129, hk4, hk5, hk6, hk7, ki⟩ := k
  refine ⟨⟨ht, (e _ (by omega)).trans k126⟩, ⟨hk2.1, (e _ (by omega)).trans hk2.2⟩, (e _ (by omega)).trans k129, ⟨hk4.1, (e _ (by omega)).trans hk4.2⟩, ⟨hk5.1, (e _ (by omega)).trans hk5.2⟩, ⟨hk6.1, (e _ (by omega)).trans hk6.2⟩, ⟨hk7.1, (e _ (by omega)).trans hk7.2⟩, fun i i0 i1 => ?_⟩
  rw [e i (by omega), e (24 + i) (by omega), e (48 + i) (by omega), e (72 + i) (by omega), e (96 + i) (by omega)]
  exact ki i i0 i1
theorem ze_open {f : Int} {g : Int → Int} : ∃ g2, zf_View_open f g = some (0, g2) ∧ ∀ i, 0 ≤ i → i < 24 → g2 i = 0 := by
  obtain ⟨g2, e, a⟩ := ze_fill24 (v := 0) (g := g)
  refine ⟨g2, ?_, a⟩
  unfold zf_View_open
  rw [e]; rfl
theorem yk_steered_l (R : yl_R L K V nc tS tL sP lP kd fr hf to mc C mk mf mh mt) {s dr N : Int} (hN : N ≤ 48) (s1 : 0 ≤ s) (s2 : s < 6) (i1 : 0 ≤ i) (i2 : i < 24) (hti : zb t i.toNat = true) : ∀ (d : Nat) (j p as vx vy h u cl ho f ch : Int) (pa g co ro S : Int → Int) (m g2 S2 gp : Int → Int) (n n2 : Nat), N - j ≤ d → 0 ≤ j → d < n → d < n2 → yk_sky t h u cl sc sr ch co ro br wc wr m → yk_sea ts gp gl m → gp s = p →
    ∃ p' as' vx' vy' h' u' cl' ho' f' ch' pa' g' co' ro' S' m' g2' S2', zf_X_steered_l0 i N dr t sc sr tS nc sP br kd hf to K V gl wc wr fr n p j as vx vy h u cl ho f ch pa g co ro S = some (p', as', vx', vy', h', u', cl', ho', f', ch', pa', g', co', ro', S') ∧
      zf_M_steered_l0 s i N dr mc mk mh mt C mf n2 j m g2 S2 = some (m', g2', S2') ∧ yk_sky t h' u' cl' sc sr ch' co' ro' br wc wr m' ∧ yk_sea ts (zv_up gp s p') gl m' ∧ (0 ≤ p' ∧ p' < 288) := by
  intro d
  induction d with
  | zero =>
    intro j p as vx vy h u cl ho f ch pa g co ro S m g2 S2 gp n n2 hd j0 hn hn2 k z hp
    obtain ⟨n, rfl⟩ : ∃ q, n = q + 1 := ⟨n - 1, by omega⟩
    obtain ⟨n2, rfl⟩ : ∃ q, n2 = q + 1 := ⟨n2 - 1, by omega⟩
    have hb := z.2 s s1 s2
    refine ⟨p, as, vx, vy, h, u, cl, ho, f, ch, pa, g, co, ro, S, m, g2, S2, ?_, ?_, k, ?_, by omega⟩
    · show zf_X_steered_l0_b i N dr t sc sr tS nc sP br kd hf to K V gl wc wr fr (zf_X_steered_l0 i N dr t sc sr tS nc sP br kd hf to K V gl wc wr fr n) p j as vx vy h u cl ho f ch pa g co ro S = _
      unfold zf_X_steered_l0_b
      rw [if_neg (by omega)]
    · show zf_M_steered_l0_b s i N dr mc mk mh mt C mf (zf_M_steered_l0 s i N dr mc mk mh mt C mf n2) j m g2 S2 = _
      unfold zf_M_steered_l0_b
      rw [if_neg (by omega)]
    · have : zv_up gp s p = gp := funext fun x => by
        by_cases e : x = s
        · rw [e, zv_up_s, hp]
        · rw [zv_up_n e]
      rw [this]; exact z
  | succ d ih =>
    intro j p as vx vy h u cl ho f ch pa g co ro S m g2 S2 gp n n2 hd j0 hn hn2 k z hp
    obtain ⟨n, rfl⟩ : ∃ q, n = q + 1 := ⟨n - 1, by omega⟩
    obtain ⟨n2, rfl⟩ : ∃ q, n2 = q + 1 := ⟨n2 - 1, by omega⟩
    have hb := z.2 s s1 s2
    show ∃ p' as' vx' vy' h' u' cl' ho' f' ch' pa' g' co' ro' S' m' g2' S2', zf_X_steered_l0_b i N dr t sc sr tS nc sP br kd hf to K V gl wc wr fr (zf_X_steered_l0 i N dr t sc sr tS nc sP br kd hf to K V gl wc wr fr n) p j as vx vy h u cl ho f ch pa g co ro S = _ ∧ zf_M_steered_l0_b s i N dr mc mk mh mt C mf (zf_M_steered_l0 s i N dr mc mk mh mt C mf n2) j m g2 S2 = _ ∧ _
    unfold zf_X_steered_l0_b zf_M_steered_l0_b
    by_cases hj : j < N
    · rw [if_pos hj, if_pos hj, zi_w_id (x := j + 1) (by omega) (by omega)]
      obtain ⟨pa0, ep, -⟩ := ze_open (f := as) (g := pa)
      unfold zf_M_steers
      rw [zi_w_id (x := 120 + s) (by omega) (by omega)]
      have fin : ∀ (cl1 ch1 f1 : Int) (g1 S1 : Int → Int) (m1 g3 S3 : Int → Int), yk_sky t h u cl1 sc sr ch1 co ro br wc wr m1 → yk_sea ts gp gl m1 →
          ∃ p' as' vx' vy' h' u' cl' ho' f' ch' pa' g' co' ro' S' m' g2' S2', ((zf_Pilot_step p i vx vy h u t sc sr cl1 tS 0 ho nc f1 sP g1 co ro br kd hf to K S1 V gl).bind fun r11 => ((zf_Sky_passHour h u co wc ro wr).bind fun r12 => (zf_X_steered_l0 i N dr t sc sr tS nc sP br kd hf to K V gl wc wr fr n r11.1 (j + 1) r11.2.2.2.1 r11.2.1 r11.2.2.1 r12.1 r12.2.1 cl1 r11.2.2.2.2.1 r11.2.2.2.2.2.1 ch1 pa0 r11.2.2.2.2.2.2.1 r12.2.2.1 r12.2.2.2 r11.2.2.2.2.2.2.2))) = some (p', as', vx', vy', h', u', cl', ho', f', ch', pa', g', co', ro', S') ∧
            ((zf_M_steersFrom (m1 (120 + s)) i mc m1 mk g3 mh mt C S3).bind fun r3 => ((zf_M_passes (zv_up m1 (120 + s) r3.1)).bind fun r4 => (zf_M_steered_l0 s i N dr mc mk mh mt C mf n2 (j + 1) r4 r3.2.1 r3.2.2))) = some (m', g2', S2') ∧ yk_sky t h' u' cl' sc sr ch' co' ro' br wc wr m' ∧ yk_sea ts (zv_up gp s p') gl m' ∧ (0 ≤ p' ∧ p' < 288) := by
        intro cl1 ch1 f1 g1 S1 m1 g3 S3 k1 z1
        have hps : m1 (120 + s) = p := (z1.1.2.2.2.1 s s1 s2).trans hp
        obtain ⟨as', ho', a', g', S', e1, e2⟩ := yx_step (f2 := vx) (f3 := vy) (f14 := f1) (g := g1) (S := S1) (ho := ho) R k1 z1 (show 0 ≤ p by omega) (by omega) i1 i2 hti yv_ca0
        obtain ⟨g4, S4, e3⟩ := ym_steersFrom (g := g3) (S := S3) R k1 z1 (show 0 ≤ p by omega) (by omega) i1 i2 hti
        have ri := (k1.2.2.2.2.2.2.2 i i1 i2).1.2.1
        have hin : 0 ≤ (if yv_see L tS h u cl1 sc sr co ro br (p % 24) (p / 24) i = true then yg_st gl p (yg_tr (p % 24) (yv_st h co i)) (ro i - p / 24) else p) ∧ (if yv_see L tS h u cl1 sc sr co ro br (p % 24) (p / 24) i = true then yg_st gl p (yg_tr (p % 24) (yv_st h co i)) (ro i - p / 24) else p) < 288 := by
          split
          · exact yg_st_in (by omega) (by omega) (by omega) (by omega)
          · omega
        rw [hps, e1, e3, zl_b, zl_b]
        generalize hQ : (if yv_see L tS h u cl1 sc sr co ro br (p % 24) (p / 24) i = true then yg_st gl p (yg_tr (p % 24) (yv_st h co i)) (ro i - p / 24) else p) = Q at hin
        have k2 := yk_sky_fr k1 (m2 := zv_up m1 (120 + s) Q) fun x hx => zv_up_n (by omega)
        have z2 := yk_sea_up z1 s1 s2 hin.1 hin.2
        obtain ⟨h', u', co', ro', m', e4, e5, e6, e7⟩ := yk_pass k2
        have z3 := yk_sea_fr z2 (m2 := m') fun x hx => e7 x (by omega) (by omega) (by omega)
        rw [e4, zl_b]
        show ∃ p' as' vx' vy' h' u' cl' ho' f' ch' pa' g' co' ro' S' m' g2' S2', _ ∧ ((zf_M_passes (zv_up m1 (120 + s) Q)).bind _) = _ ∧ _
        rw [e5, zl_b]
        obtain ⟨p2, as2, vx2, vy2, h2, u2, cl2, ho2, f2, ch2, pa2, gg2, co2, ro2, SS2, m3, g5, S5, x1, x2, x3, x4, x5⟩ := ih (j + 1) Q as' (p % 24) (p / 24) h' u' cl1 ho' a' ch1 pa0 g' co' ro' S' m' g4 S4 (zv_up gp s Q) n n2 (by omega) (by omega) (by omega) (by omega) e6 z3 zv_up_s
        refine ⟨p2, as2, vx2, vy2, h2, u2, cl2, ho2, f2, ch2, pa2, gg2, co2, ro2, SS2, m3, g5, S5, x1, x2, x3, ?_, x5⟩
        have : zv_up (zv_up gp s Q) s p2 = zv_up gp s p2 := funext fun x => by
          by_cases e : x = s
          · rw [e, zv_up_s, zv_up_s]
          · rw [zv_up_n e, zv_up_n e, zv_up_n e]
        rw [← this]; exact x4
      by_cases hdr : dr = 0
      · rw [if_pos hdr, if_pos hdr, ep, zl_b, zl_ci (by omega) (by omega)]
        obtain ⟨p', as', vx', vy', h', u', cl', ho', f', ch', pa', g', co', ro', S', m', g2', S2', x1, x2, x3⟩ := fin cl ch f g S m g2 S2 k z
        refine ⟨p', as', vx', vy', h', u', cl', ho', f', ch', pa', g', co', ro', S', m', g2', S2', x1, ?_, x3⟩
        simp only [zl_bb, zl_b]
        exact x2
      · rw [if_neg hdr, if_neg hdr]
        obtain ⟨ch1, cl1, f1, g1, S1, m1, g3, S3, y1, y2, y3, y4⟩ := yk_drawn (f := f) (g := g) (S := S) (g2 := g2) (S2 := S2) R k
        rw [y1, y2, zl_b, zl_b, ep, zl_b, zl_ci (by omega) (by omega)]
        obtain ⟨p', as', vx', vy', h', u', cl', ho', f', ch', pa', g', co', ro', S', m', g2', S2', x1, x2, x3⟩ := fin cl1 ch1 f1 g1 S1 m1 g3 S3 y3 (yk_sea_fr z fun x hx => y4 x (by omega) (by omega))
        refine ⟨p', as', vx', vy', h', u', cl', ho', f', ch', pa', g', co', ro', S', m', g2', S2', x1, ?_, x3⟩
        simp only [zl_bb, zl_b]
        exact x2
    · rw [if_neg hj, if_neg hj]
      refine ⟨p, as, vx, vy, h, u, cl, ho, f, ch, pa, g, co, ro, S, m, g2, S2, rfl, rfl, k, ?_, by omega⟩
      have : zv_up gp s p = gp := funext fun x => by
        by_cases e : x = s
        · rw [e, zv_up_s, hp]
        · rw [zv_up_n e]
      rw [this]; exact z
end YSX
